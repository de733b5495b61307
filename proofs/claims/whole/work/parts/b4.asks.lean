/-! the class asked (written by wip/whole/tools/eng.py) -/
section VCS
variable {call : PC} {mc ms fr : Nat} {Q : Int → PH → Prop} {X : Nat → PH → Prop} {K : PK}
set_option maxRecDepth 100000 in
theorem v_X6_setting_0 (a0 : Nat) (i1 : Int) (h : PH) (c s : Nat) (H : hk h a0 = 7 ∧ (c + 1 ≤ mc ∧ s + 6 ≤ ms) ∧ call m_X6_needHall [pA a0] h (fun _ h1 =>
 InR i1 ∧ (i1 < 0 →
 ((c + 1) + 1 ≤ mc ∧ (s + 6) + 6 ≤ ms) ∧ call m_X6_needArgument [pI 0] h1 (fun _ h2 =>
 hk h2 a0 = 7 ∧ hk h2 (hr h2 a0 6) = 1 ∧ call m_X0_settingOf [pA (hr h2 a0 6), pI i1] h2 (fun x3 h3 =>
 Q x3 h3) X) X) ∧
(0 ≤ i1 →
 InR i1 ∧ InR 4 ∧ (i1 < 4 →
 ((c + 1) + 1 ≤ mc ∧ (s + 6) + 6 ≤ ms) ∧ call m_X6_needArgument [pI 1] h1 (fun _ h4 =>
 hk h4 a0 = 7 ∧ hk h4 (hr h4 a0 6) = 1 ∧ call m_X0_settingOf [pA (hr h4 a0 6), pI i1] h4 (fun x5 h5 =>
 Q x5 h5) X) X) ∧
(4 ≤ i1 →
 ((c + 1) + 1 ≤ mc ∧ (s + 6) + 6 ≤ ms) ∧ call m_X6_needArgument [pI 0] h1 (fun _ h6 =>
 hk h6 a0 = 7 ∧ hk h6 (hr h6 a0 6) = 1 ∧ call m_X0_settingOf [pA (hr h6 a0 6), pI i1] h6 (fun x7 h7 =>
 Q x7 h7) X) X))) X) : wpc k_X6_setting [] call mc ms fr Q X [] K 400 (pto 0 k_X6_setting) [some (pA a0), some (pI i1)] [] h c s :=
  H
set_option maxRecDepth 100000 in
theorem v_X6_kind_0 (a0 : Nat) (i1 : Int) (i2 : Int) (h : PH) (c s : Nat) (H : hk h a0 = 7 ∧ (c + 1 ≤ mc ∧ s + 6 ≤ ms) ∧ call m_X6_needHall [pA a0] h (fun _ h1 =>
 hk h1 a0 = 7 ∧ ((c + 1) + 1 ≤ mc ∧ (s + 6) + 6 ≤ ms) ∧ call m_X6_needKind [pA a0, pI i1] h1 (fun _ h2 =>
 InR i2 ∧ (i2 < 0 →
 (((c + 1) + 1) + 1 ≤ mc ∧ ((s + 6) + 6) + 6 ≤ ms) ∧ call m_X6_needArgument [pI 0] h2 (fun _ h3 =>
 hk h3 a0 = 7 ∧ hk h3 (hr h3 a0 6) = 1 ∧ call m_X0_kindNumber [pA (hr h3 a0 6), pI i1, pI i2] h3 (fun x4 h4 =>
 Q x4 h4) X) X) ∧
(0 ≤ i2 →
 InR i2 ∧ InR 3 ∧ (i2 < 3 →
 (((c + 1) + 1) + 1 ≤ mc ∧ ((s + 6) + 6) + 6 ≤ ms) ∧ call m_X6_needArgument [pI 1] h2 (fun _ h5 =>
 hk h5 a0 = 7 ∧ hk h5 (hr h5 a0 6) = 1 ∧ call m_X0_kindNumber [pA (hr h5 a0 6), pI i1, pI i2] h5 (fun x6 h6 =>
 Q x6 h6) X) X) ∧
(3 ≤ i2 →
 (((c + 1) + 1) + 1 ≤ mc ∧ ((s + 6) + 6) + 6 ≤ ms) ∧ call m_X6_needArgument [pI 0] h2 (fun _ h7 =>
 hk h7 a0 = 7 ∧ hk h7 (hr h7 a0 6) = 1 ∧ call m_X0_kindNumber [pA (hr h7 a0 6), pI i1, pI i2] h7 (fun x8 h8 =>
 Q x8 h8) X) X))) X) X) : wpc k_X6_kind [] call mc ms fr Q X [] K 400 (pto 0 k_X6_kind) [some (pA a0), some (pI i1), some (pI i2)] [] h c s :=
  H
set_option maxRecDepth 100000 in
theorem v_X6_urgency_0 (a0 : Nat) (i1 : Int) (i2 : Int) (h : PH) (c s : Nat) (H : hk h a0 = 7 ∧ (c + 1 ≤ mc ∧ s + 6 ≤ ms) ∧ call m_X6_needHall [pA a0] h (fun _ h1 =>
 hk h1 a0 = 7 ∧ ((c + 1) + 1 ≤ mc ∧ (s + 6) + 6 ≤ ms) ∧ call m_X6_needProgram [pA a0, pI i1] h1 (fun _ h2 =>
 hk h2 a0 = 7 ∧ (((c + 1) + 1) + 1 ≤ mc ∧ ((s + 6) + 6) + 6 ≤ ms) ∧ call m_X6_needKind [pA a0, pI i2] h2 (fun _ h3 =>
 hk h3 a0 = 7 ∧ hk h3 (hr h3 a0 6) = 1 ∧ call m_X0_urgencyOf [pA (hr h3 a0 6), pI i1, pI i2] h3 (fun x4 h4 =>
 Q x4 h4) X) X) X) X) : wpc k_X6_urgency [] call mc ms fr Q X [] K 400 (pto 0 k_X6_urgency) [some (pA a0), some (pI i1), some (pI i2)] [] h c s :=
  H
set_option maxRecDepth 100000 in
theorem v_X6_tiredness_0 (a0 : Nat) (i1 : Int) (i2 : Int) (h : PH) (c s : Nat) (H : hk h a0 = 7 ∧ (c + 1 ≤ mc ∧ s + 6 ≤ ms) ∧ call m_X6_needHall [pA a0] h (fun _ h1 =>
 hk h1 a0 = 7 ∧ ((c + 1) + 1 ≤ mc ∧ (s + 6) + 6 ≤ ms) ∧ call m_X6_needProgram [pA a0, pI i1] h1 (fun _ h2 =>
 hk h2 a0 = 7 ∧ (((c + 1) + 1) + 1 ≤ mc ∧ ((s + 6) + 6) + 6 ≤ ms) ∧ call m_X6_needKind [pA a0, pI i2] h2 (fun _ h3 =>
 hk h3 a0 = 7 ∧ hk h3 (hr h3 a0 6) = 1 ∧ call m_X0_tiredOf [pA (hr h3 a0 6), pI i1, pI i2] h3 (fun x4 h4 =>
 Q x4 h4) X) X) X) X) : wpc k_X6_tiredness [] call mc ms fr Q X [] K 400 (pto 0 k_X6_tiredness) [some (pA a0), some (pI i1), some (pI i2)] [] h c s :=
  H
set_option maxRecDepth 100000 in
theorem v_X6_program_0 (a0 : Nat) (i1 : Int) (i2 : Int) (h : PH) (c s : Nat) (H : hk h a0 = 7 ∧ (c + 1 ≤ mc ∧ s + 6 ≤ ms) ∧ call m_X6_needHall [pA a0] h (fun _ h1 =>
 hk h1 a0 = 7 ∧ ((c + 1) + 1 ≤ mc ∧ (s + 6) + 6 ≤ ms) ∧ call m_X6_needProgram [pA a0, pI i1] h1 (fun _ h2 =>
 InR i2 ∧ (i2 < 0 →
 (((c + 1) + 1) + 1 ≤ mc ∧ ((s + 6) + 6) + 6 ≤ ms) ∧ call m_X6_needArgument [pI 0] h2 (fun _ h3 =>
 InR i2 ∧ (i2 < 0 ∨ 3 < i2 →
 hk h3 a0 = 7 ∧ hk h3 (hr h3 a0 6) = 1 ∧ call m_X0_tally [pA (hr h3 a0 6), pI i1, pI (i2 - 4)] h3 (fun x4 h4 =>
 Q x4 h4) X) ∧
(i2 = 0 →
 hk h3 a0 = 7 ∧ hk h3 (hr h3 a0 6) = 1 ∧ hk h3 (hr h3 (hr h3 a0 6) 5) = 2 ∧ call m_X1_sizeOf [pA (hr h3 (hr h3 a0 6) 5), pI i1] h3 (fun x5 h5 =>
 Q x5 h5) X) ∧
(i2 = 1 →
 hk h3 a0 = 7 ∧ hk h3 (hr h3 a0 6) = 1 ∧ hk h3 (hr h3 (hr h3 a0 6) 6) = 2 ∧ call m_X1_sizeOf [pA (hr h3 (hr h3 a0 6) 6), pI i1] h3 (fun x6 h6 =>
 Q x6 h6) X) ∧
(i2 = 2 →
 hk h3 a0 = 7 ∧ hk h3 (hr h3 a0 6) = 1 ∧ call m_X0_maskOf [pA (hr h3 a0 6), pI i1] h3 (fun x7 h7 =>
 Q x7 h7) X) ∧
(i2 = 3 →
 hk h3 a0 = 7 ∧ hk h3 (hr h3 a0 5) = 6 ∧ call m_X5_handlersOf [pA (hr h3 a0 5), pI i1] h3 (fun x8 h8 =>
 Q x8 h8) X) ∧ True) X) ∧
(0 ≤ i2 →
 InR i2 ∧ InR 7 ∧ (7 < i2 →
 (((c + 1) + 1) + 1 ≤ mc ∧ ((s + 6) + 6) + 6 ≤ ms) ∧ call m_X6_needArgument [pI 0] h2 (fun _ h9 =>
 InR i2 ∧ (i2 < 0 ∨ 3 < i2 →
 hk h9 a0 = 7 ∧ hk h9 (hr h9 a0 6) = 1 ∧ call m_X0_tally [pA (hr h9 a0 6), pI i1, pI (i2 - 4)] h9 (fun x10 h10 =>
 Q x10 h10) X) ∧
(i2 = 0 →
 hk h9 a0 = 7 ∧ hk h9 (hr h9 a0 6) = 1 ∧ hk h9 (hr h9 (hr h9 a0 6) 5) = 2 ∧ call m_X1_sizeOf [pA (hr h9 (hr h9 a0 6) 5), pI i1] h9 (fun x11 h11 =>
 Q x11 h11) X) ∧
(i2 = 1 →
 hk h9 a0 = 7 ∧ hk h9 (hr h9 a0 6) = 1 ∧ hk h9 (hr h9 (hr h9 a0 6) 6) = 2 ∧ call m_X1_sizeOf [pA (hr h9 (hr h9 a0 6) 6), pI i1] h9 (fun x12 h12 =>
 Q x12 h12) X) ∧
(i2 = 2 →
 hk h9 a0 = 7 ∧ hk h9 (hr h9 a0 6) = 1 ∧ call m_X0_maskOf [pA (hr h9 a0 6), pI i1] h9 (fun x13 h13 =>
 Q x13 h13) X) ∧
(i2 = 3 →
 hk h9 a0 = 7 ∧ hk h9 (hr h9 a0 5) = 6 ∧ call m_X5_handlersOf [pA (hr h9 a0 5), pI i1] h9 (fun x14 h14 =>
 Q x14 h14) X) ∧ True) X) ∧
(i2 ≤ 7 →
 (((c + 1) + 1) + 1 ≤ mc ∧ ((s + 6) + 6) + 6 ≤ ms) ∧ call m_X6_needArgument [pI 1] h2 (fun _ h15 =>
 InR i2 ∧ (i2 < 0 ∨ 3 < i2 →
 hk h15 a0 = 7 ∧ hk h15 (hr h15 a0 6) = 1 ∧ call m_X0_tally [pA (hr h15 a0 6), pI i1, pI (i2 - 4)] h15 (fun x16 h16 =>
 Q x16 h16) X) ∧
(i2 = 0 →
 hk h15 a0 = 7 ∧ hk h15 (hr h15 a0 6) = 1 ∧ hk h15 (hr h15 (hr h15 a0 6) 5) = 2 ∧ call m_X1_sizeOf [pA (hr h15 (hr h15 a0 6) 5), pI i1] h15 (fun x17 h17 =>
 Q x17 h17) X) ∧
(i2 = 1 →
 hk h15 a0 = 7 ∧ hk h15 (hr h15 a0 6) = 1 ∧ hk h15 (hr h15 (hr h15 a0 6) 6) = 2 ∧ call m_X1_sizeOf [pA (hr h15 (hr h15 a0 6) 6), pI i1] h15 (fun x18 h18 =>
 Q x18 h18) X) ∧
(i2 = 2 →
 hk h15 a0 = 7 ∧ hk h15 (hr h15 a0 6) = 1 ∧ call m_X0_maskOf [pA (hr h15 a0 6), pI i1] h15 (fun x19 h19 =>
 Q x19 h19) X) ∧
(i2 = 3 →
 hk h15 a0 = 7 ∧ hk h15 (hr h15 a0 5) = 6 ∧ call m_X5_handlersOf [pA (hr h15 a0 5), pI i1] h15 (fun x20 h20 =>
 Q x20 h20) X) ∧ True) X))) X) X) : wpc k_X6_program [] call mc ms fr Q X [] K 400 (pto 0 k_X6_program) [some (pA a0), some (pI i1), some (pI i2)] [] h c s :=
  H
set_option maxRecDepth 100000 in
theorem v_X6_count_0 (a0 : Nat) (i1 : Int) (h : PH) (c s : Nat) (H : hk h a0 = 7 ∧ (c + 1 ≤ mc ∧ s + 6 ≤ ms) ∧ call m_X6_needHall [pA a0] h (fun _ h1 =>
 InR i1 ∧ (i1 < 0 →
 ((c + 1) + 1 ≤ mc ∧ (s + 6) + 6 ≤ ms) ∧ call m_X6_needArgument [pI 0] h1 (fun _ h2 =>
 InR i1 ∧ (i1 < 0 ∨ 13 < i1 →
 hk h2 a0 = 7 ∧ hk h2 (hr h2 a0 6) = 1 ∧ call m_X0_endedBy [pA (hr h2 a0 6), pI (i1 - 7)] h2 (fun x3 h3 =>
 Q x3 h3) X) ∧
(i1 = 0 →
 hk h2 a0 = 7 ∧ hk h2 (hr h2 a0 5) = 6 ∧ hk h2 (hr h2 (hr h2 a0 5) 0) = 3 ∧ Q (hi h2 (hr h2 (hr h2 a0 5) 0) 2) h2) ∧
(i1 = 1 →
 hk h2 a0 = 7 ∧ hk h2 (hr h2 a0 5) = 6 ∧ hk h2 (hr h2 (hr h2 a0 5) 1) = 3 ∧ Q (hi h2 (hr h2 (hr h2 a0 5) 1) 2) h2) ∧
(i1 = 2 →
 hk h2 a0 = 7 ∧ hk h2 (hr h2 a0 5) = 6 ∧ call m_X5_handlersInAll [pA (hr h2 a0 5)] h2 (fun x4 h4 =>
 Q x4 h4) X) ∧
(i1 = 3 →
 hk h2 a0 = 7 ∧ hk h2 (hr h2 a0 6) = 1 ∧ Q (hi h2 (hr h2 a0 6) 10) h2) ∧
(i1 = 4 →
 hk h2 a0 = 7 ∧ hk h2 (hr h2 a0 6) = 1 ∧ Q (hi h2 (hr h2 a0 6) 11) h2) ∧
(i1 = 5 →
 hk h2 a0 = 7 ∧ hk h2 (hr h2 a0 6) = 1 ∧ hk h2 (hr h2 (hr h2 a0 6) 5) = 2 ∧ call m_X1_total [pA (hr h2 (hr h2 a0 6) 5)] h2 (fun x5 h5 =>
 Q x5 h5) X) ∧
(i1 = 6 →
 hk h2 a0 = 7 ∧ hk h2 (hr h2 a0 6) = 1 ∧ hk h2 (hr h2 (hr h2 a0 6) 6) = 2 ∧ call m_X1_total [pA (hr h2 (hr h2 a0 6) 6)] h2 (fun x6 h6 =>
 Q x6 h6) X) ∧
(i1 = 7 →
 hk h2 a0 = 7 ∧ hk h2 (hr h2 a0 6) = 1 ∧ call m_X0_endedBy [pA (hr h2 a0 6), pI (i1 - 7)] h2 (fun x7 h7 =>
 Q x7 h7) X) ∧
(i1 = 8 →
 hk h2 a0 = 7 ∧ hk h2 (hr h2 a0 6) = 1 ∧ call m_X0_endedBy [pA (hr h2 a0 6), pI (i1 - 7)] h2 (fun x8 h8 =>
 Q x8 h8) X) ∧
(i1 = 9 →
 hk h2 a0 = 7 ∧ hk h2 (hr h2 a0 6) = 1 ∧ call m_X0_endedBy [pA (hr h2 a0 6), pI (i1 - 7)] h2 (fun x9 h9 =>
 Q x9 h9) X) ∧
(i1 = 10 →
 hk h2 a0 = 7 ∧ hk h2 (hr h2 a0 6) = 1 ∧ call m_X0_endedBy [pA (hr h2 a0 6), pI (i1 - 7)] h2 (fun x10 h10 =>
 Q x10 h10) X) ∧
(i1 = 11 →
 hk h2 a0 = 7 ∧ hk h2 (hr h2 a0 6) = 1 ∧ call m_X0_endedBy [pA (hr h2 a0 6), pI (i1 - 7)] h2 (fun x11 h11 =>
 Q x11 h11) X) ∧
(i1 = 12 →
 hk h2 a0 = 7 ∧ hk h2 (hr h2 a0 6) = 1 ∧ call m_X0_endedBy [pA (hr h2 a0 6), pI (i1 - 7)] h2 (fun x12 h12 =>
 Q x12 h12) X) ∧
(i1 = 13 →
 hk h2 a0 = 7 ∧ hk h2 (hr h2 a0 6) = 1 ∧ call m_X0_told [pA (hr h2 a0 6)] h2 (fun x13 h13 =>
 Q x13 h13) X) ∧ True) X) ∧
(0 ≤ i1 →
 InR i1 ∧ InR 13 ∧ (13 < i1 →
 ((c + 1) + 1 ≤ mc ∧ (s + 6) + 6 ≤ ms) ∧ call m_X6_needArgument [pI 0] h1 (fun _ h14 =>
 InR i1 ∧ (i1 < 0 ∨ 13 < i1 →
 hk h14 a0 = 7 ∧ hk h14 (hr h14 a0 6) = 1 ∧ call m_X0_endedBy [pA (hr h14 a0 6), pI (i1 - 7)] h14 (fun x15 h15 =>
 Q x15 h15) X) ∧
(i1 = 0 →
 hk h14 a0 = 7 ∧ hk h14 (hr h14 a0 5) = 6 ∧ hk h14 (hr h14 (hr h14 a0 5) 0) = 3 ∧ Q (hi h14 (hr h14 (hr h14 a0 5) 0) 2) h14) ∧
(i1 = 1 →
 hk h14 a0 = 7 ∧ hk h14 (hr h14 a0 5) = 6 ∧ hk h14 (hr h14 (hr h14 a0 5) 1) = 3 ∧ Q (hi h14 (hr h14 (hr h14 a0 5) 1) 2) h14) ∧
(i1 = 2 →
 hk h14 a0 = 7 ∧ hk h14 (hr h14 a0 5) = 6 ∧ call m_X5_handlersInAll [pA (hr h14 a0 5)] h14 (fun x16 h16 =>
 Q x16 h16) X) ∧
(i1 = 3 →
 hk h14 a0 = 7 ∧ hk h14 (hr h14 a0 6) = 1 ∧ Q (hi h14 (hr h14 a0 6) 10) h14) ∧
(i1 = 4 →
 hk h14 a0 = 7 ∧ hk h14 (hr h14 a0 6) = 1 ∧ Q (hi h14 (hr h14 a0 6) 11) h14) ∧
(i1 = 5 →
 hk h14 a0 = 7 ∧ hk h14 (hr h14 a0 6) = 1 ∧ hk h14 (hr h14 (hr h14 a0 6) 5) = 2 ∧ call m_X1_total [pA (hr h14 (hr h14 a0 6) 5)] h14 (fun x17 h17 =>
 Q x17 h17) X) ∧
(i1 = 6 →
 hk h14 a0 = 7 ∧ hk h14 (hr h14 a0 6) = 1 ∧ hk h14 (hr h14 (hr h14 a0 6) 6) = 2 ∧ call m_X1_total [pA (hr h14 (hr h14 a0 6) 6)] h14 (fun x18 h18 =>
 Q x18 h18) X) ∧
(i1 = 7 →
 hk h14 a0 = 7 ∧ hk h14 (hr h14 a0 6) = 1 ∧ call m_X0_endedBy [pA (hr h14 a0 6), pI (i1 - 7)] h14 (fun x19 h19 =>
 Q x19 h19) X) ∧
(i1 = 8 →
 hk h14 a0 = 7 ∧ hk h14 (hr h14 a0 6) = 1 ∧ call m_X0_endedBy [pA (hr h14 a0 6), pI (i1 - 7)] h14 (fun x20 h20 =>
 Q x20 h20) X) ∧
(i1 = 9 →
 hk h14 a0 = 7 ∧ hk h14 (hr h14 a0 6) = 1 ∧ call m_X0_endedBy [pA (hr h14 a0 6), pI (i1 - 7)] h14 (fun x21 h21 =>
 Q x21 h21) X) ∧
(i1 = 10 →
 hk h14 a0 = 7 ∧ hk h14 (hr h14 a0 6) = 1 ∧ call m_X0_endedBy [pA (hr h14 a0 6), pI (i1 - 7)] h14 (fun x22 h22 =>
 Q x22 h22) X) ∧
(i1 = 11 →
 hk h14 a0 = 7 ∧ hk h14 (hr h14 a0 6) = 1 ∧ call m_X0_endedBy [pA (hr h14 a0 6), pI (i1 - 7)] h14 (fun x23 h23 =>
 Q x23 h23) X) ∧
(i1 = 12 →
 hk h14 a0 = 7 ∧ hk h14 (hr h14 a0 6) = 1 ∧ call m_X0_endedBy [pA (hr h14 a0 6), pI (i1 - 7)] h14 (fun x24 h24 =>
 Q x24 h24) X) ∧
(i1 = 13 →
 hk h14 a0 = 7 ∧ hk h14 (hr h14 a0 6) = 1 ∧ call m_X0_told [pA (hr h14 a0 6)] h14 (fun x25 h25 =>
 Q x25 h25) X) ∧ True) X) ∧
(i1 ≤ 13 →
 ((c + 1) + 1 ≤ mc ∧ (s + 6) + 6 ≤ ms) ∧ call m_X6_needArgument [pI 1] h1 (fun _ h26 =>
 InR i1 ∧ (i1 < 0 ∨ 13 < i1 →
 hk h26 a0 = 7 ∧ hk h26 (hr h26 a0 6) = 1 ∧ call m_X0_endedBy [pA (hr h26 a0 6), pI (i1 - 7)] h26 (fun x27 h27 =>
 Q x27 h27) X) ∧
(i1 = 0 →
 hk h26 a0 = 7 ∧ hk h26 (hr h26 a0 5) = 6 ∧ hk h26 (hr h26 (hr h26 a0 5) 0) = 3 ∧ Q (hi h26 (hr h26 (hr h26 a0 5) 0) 2) h26) ∧
(i1 = 1 →
 hk h26 a0 = 7 ∧ hk h26 (hr h26 a0 5) = 6 ∧ hk h26 (hr h26 (hr h26 a0 5) 1) = 3 ∧ Q (hi h26 (hr h26 (hr h26 a0 5) 1) 2) h26) ∧
(i1 = 2 →
 hk h26 a0 = 7 ∧ hk h26 (hr h26 a0 5) = 6 ∧ call m_X5_handlersInAll [pA (hr h26 a0 5)] h26 (fun x28 h28 =>
 Q x28 h28) X) ∧
(i1 = 3 →
 hk h26 a0 = 7 ∧ hk h26 (hr h26 a0 6) = 1 ∧ Q (hi h26 (hr h26 a0 6) 10) h26) ∧
(i1 = 4 →
 hk h26 a0 = 7 ∧ hk h26 (hr h26 a0 6) = 1 ∧ Q (hi h26 (hr h26 a0 6) 11) h26) ∧
(i1 = 5 →
 hk h26 a0 = 7 ∧ hk h26 (hr h26 a0 6) = 1 ∧ hk h26 (hr h26 (hr h26 a0 6) 5) = 2 ∧ call m_X1_total [pA (hr h26 (hr h26 a0 6) 5)] h26 (fun x29 h29 =>
 Q x29 h29) X) ∧
(i1 = 6 →
 hk h26 a0 = 7 ∧ hk h26 (hr h26 a0 6) = 1 ∧ hk h26 (hr h26 (hr h26 a0 6) 6) = 2 ∧ call m_X1_total [pA (hr h26 (hr h26 a0 6) 6)] h26 (fun x30 h30 =>
 Q x30 h30) X) ∧
(i1 = 7 →
 hk h26 a0 = 7 ∧ hk h26 (hr h26 a0 6) = 1 ∧ call m_X0_endedBy [pA (hr h26 a0 6), pI (i1 - 7)] h26 (fun x31 h31 =>
 Q x31 h31) X) ∧
(i1 = 8 →
 hk h26 a0 = 7 ∧ hk h26 (hr h26 a0 6) = 1 ∧ call m_X0_endedBy [pA (hr h26 a0 6), pI (i1 - 7)] h26 (fun x32 h32 =>
 Q x32 h32) X) ∧
(i1 = 9 →
 hk h26 a0 = 7 ∧ hk h26 (hr h26 a0 6) = 1 ∧ call m_X0_endedBy [pA (hr h26 a0 6), pI (i1 - 7)] h26 (fun x33 h33 =>
 Q x33 h33) X) ∧
(i1 = 10 →
 hk h26 a0 = 7 ∧ hk h26 (hr h26 a0 6) = 1 ∧ call m_X0_endedBy [pA (hr h26 a0 6), pI (i1 - 7)] h26 (fun x34 h34 =>
 Q x34 h34) X) ∧
(i1 = 11 →
 hk h26 a0 = 7 ∧ hk h26 (hr h26 a0 6) = 1 ∧ call m_X0_endedBy [pA (hr h26 a0 6), pI (i1 - 7)] h26 (fun x35 h35 =>
 Q x35 h35) X) ∧
(i1 = 12 →
 hk h26 a0 = 7 ∧ hk h26 (hr h26 a0 6) = 1 ∧ call m_X0_endedBy [pA (hr h26 a0 6), pI (i1 - 7)] h26 (fun x36 h36 =>
 Q x36 h36) X) ∧
(i1 = 13 →
 hk h26 a0 = 7 ∧ hk h26 (hr h26 a0 6) = 1 ∧ call m_X0_told [pA (hr h26 a0 6)] h26 (fun x37 h37 =>
 Q x37 h37) X) ∧ True) X))) X) : wpc k_X6_count [] call mc ms fr Q X [] K 400 (pto 0 k_X6_count) [some (pA a0), some (pI i1)] [] h c s :=
  H
set_option maxRecDepth 100000 in
theorem v_X6_handler_0 (a0 : Nat) (i1 : Int) (i2 : Int) (i3 : Int) (z4 : Option PV) (z5 : Option PV) (h : PH) (c s : Nat) (H : hk h a0 = 7 ∧ (c + 1 ≤ mc ∧ s + 6 ≤ ms) ∧ call m_X6_needHall [pA a0] h (fun _ h1 =>
 hk h1 a0 = 7 ∧ ((c + 1) + 1 ≤ mc ∧ (s + 6) + 6 ≤ ms) ∧ call m_X6_needProgram [pA a0, pI i1] h1 (fun _ h2 =>
 hk h2 a0 = 7 ∧ (((c + 1) + 1) + 1 ≤ mc ∧ ((s + 6) + 6) + 6 ≤ ms) ∧ call m_X6_needKind [pA a0, pI i2] h2 (fun _ h3 =>
 InR i3 ∧ (i3 < 0 →
 ((((c + 1) + 1) + 1) + 1 ≤ mc ∧ (((s + 6) + 6) + 6) + 6 ≤ ms) ∧ call m_X6_needArgument [pI 0] h3 (fun _ h4 =>
 hk h4 a0 = 7 ∧ hk h4 (hr h4 a0 5) = 6 ∧ call m_X5_ticksOf [pA (hr h4 a0 5), pI i1, pI i2] h4 (fun x5 h5 =>
 InR x5 ∧ (x5 = 0 →
 Q ((-1)) h5) ∧
(x5 ≠ 0 →
 InR i3 ∧ (i3 = 0 →
 hk h5 a0 = 7 ∧ hk h5 (hr h5 a0 5) = 6 ∧ call m_X5_ticksOf [pA (hr h5 a0 5), pI i1, pI i2] h5 (fun x6 h6 =>
 Q x6 h6) X) ∧
(i3 ≠ 0 →
 InR i3 ∧ InR 1 ∧ (i3 = 1 →
 hk h5 a0 = 7 ∧ hk h5 (hr h5 a0 5) = 6 ∧ call m_X5_actsOf [pA (hr h5 a0 5), pI i1, pI i2] h5 (fun x7 h7 =>
 Q x7 h7) X) ∧
(i3 ≠ 1 →
 InR i3 ∧ InR 10 ∧ (10 : Int) ≠ 0 ∧ InR i3 ∧ InR 10 ∧ (10 : Int) ≠ 0 ∧ InR ((Int.tdiv i3 10) - 1) ∧ (((Int.tdiv i3 10) - 1) < 0 →
 Q ((-1)) h5) ∧
(0 ≤ ((Int.tdiv i3 10) - 1) →
 hk h5 a0 = 7 ∧ hk h5 (hr h5 a0 5) = 6 ∧ call m_X5_actsOf [pA (hr h5 a0 5), pI i1, pI i2] h5 (fun x8 h8 =>
 InR ((Int.tdiv i3 10) - 1) ∧ InR x8 ∧ (((Int.tdiv i3 10) - 1) < x8 →
 InR (Int.tmod i3 10) ∧ InR 4 ∧ ((Int.tmod i3 10) < 4 →
 hk h8 a0 = 7 ∧ hk h8 (hr h8 a0 5) = 6 ∧ call m_X5_actPart [pA (hr h8 a0 5), pI i1, pI i2, pI ((Int.tdiv i3 10) - 1), pI (Int.tmod i3 10)] h8 (fun x9 h9 =>
 Q x9 h9) X) ∧
(4 ≤ (Int.tmod i3 10) →
 Q ((-1)) h8)) ∧
(x8 ≤ ((Int.tdiv i3 10) - 1) →
 Q ((-1)) h8)) X))))) X) X) ∧
(0 ≤ i3 →
 InR i3 ∧ InR 50 ∧ (i3 < 50 →
 ((((c + 1) + 1) + 1) + 1 ≤ mc ∧ (((s + 6) + 6) + 6) + 6 ≤ ms) ∧ call m_X6_needArgument [pI 1] h3 (fun _ h10 =>
 hk h10 a0 = 7 ∧ hk h10 (hr h10 a0 5) = 6 ∧ call m_X5_ticksOf [pA (hr h10 a0 5), pI i1, pI i2] h10 (fun x11 h11 =>
 InR x11 ∧ (x11 = 0 →
 Q ((-1)) h11) ∧
(x11 ≠ 0 →
 InR i3 ∧ (i3 = 0 →
 hk h11 a0 = 7 ∧ hk h11 (hr h11 a0 5) = 6 ∧ call m_X5_ticksOf [pA (hr h11 a0 5), pI i1, pI i2] h11 (fun x12 h12 =>
 Q x12 h12) X) ∧
(i3 ≠ 0 →
 InR i3 ∧ InR 1 ∧ (i3 = 1 →
 hk h11 a0 = 7 ∧ hk h11 (hr h11 a0 5) = 6 ∧ call m_X5_actsOf [pA (hr h11 a0 5), pI i1, pI i2] h11 (fun x13 h13 =>
 Q x13 h13) X) ∧
(i3 ≠ 1 →
 InR i3 ∧ InR 10 ∧ (10 : Int) ≠ 0 ∧ InR i3 ∧ InR 10 ∧ (10 : Int) ≠ 0 ∧ InR ((Int.tdiv i3 10) - 1) ∧ (((Int.tdiv i3 10) - 1) < 0 →
 Q ((-1)) h11) ∧
(0 ≤ ((Int.tdiv i3 10) - 1) →
 hk h11 a0 = 7 ∧ hk h11 (hr h11 a0 5) = 6 ∧ call m_X5_actsOf [pA (hr h11 a0 5), pI i1, pI i2] h11 (fun x14 h14 =>
 InR ((Int.tdiv i3 10) - 1) ∧ InR x14 ∧ (((Int.tdiv i3 10) - 1) < x14 →
 InR (Int.tmod i3 10) ∧ InR 4 ∧ ((Int.tmod i3 10) < 4 →
 hk h14 a0 = 7 ∧ hk h14 (hr h14 a0 5) = 6 ∧ call m_X5_actPart [pA (hr h14 a0 5), pI i1, pI i2, pI ((Int.tdiv i3 10) - 1), pI (Int.tmod i3 10)] h14 (fun x15 h15 =>
 Q x15 h15) X) ∧
(4 ≤ (Int.tmod i3 10) →
 Q ((-1)) h14)) ∧
(x14 ≤ ((Int.tdiv i3 10) - 1) →
 Q ((-1)) h14)) X))))) X) X) ∧
(50 ≤ i3 →
 ((((c + 1) + 1) + 1) + 1 ≤ mc ∧ (((s + 6) + 6) + 6) + 6 ≤ ms) ∧ call m_X6_needArgument [pI 0] h3 (fun _ h16 =>
 hk h16 a0 = 7 ∧ hk h16 (hr h16 a0 5) = 6 ∧ call m_X5_ticksOf [pA (hr h16 a0 5), pI i1, pI i2] h16 (fun x17 h17 =>
 InR x17 ∧ (x17 = 0 →
 Q ((-1)) h17) ∧
(x17 ≠ 0 →
 InR i3 ∧ (i3 = 0 →
 hk h17 a0 = 7 ∧ hk h17 (hr h17 a0 5) = 6 ∧ call m_X5_ticksOf [pA (hr h17 a0 5), pI i1, pI i2] h17 (fun x18 h18 =>
 Q x18 h18) X) ∧
(i3 ≠ 0 →
 InR i3 ∧ InR 1 ∧ (i3 = 1 →
 hk h17 a0 = 7 ∧ hk h17 (hr h17 a0 5) = 6 ∧ call m_X5_actsOf [pA (hr h17 a0 5), pI i1, pI i2] h17 (fun x19 h19 =>
 Q x19 h19) X) ∧
(i3 ≠ 1 →
 InR i3 ∧ InR 10 ∧ (10 : Int) ≠ 0 ∧ InR i3 ∧ InR 10 ∧ (10 : Int) ≠ 0 ∧ InR ((Int.tdiv i3 10) - 1) ∧ (((Int.tdiv i3 10) - 1) < 0 →
 Q ((-1)) h17) ∧
(0 ≤ ((Int.tdiv i3 10) - 1) →
 hk h17 a0 = 7 ∧ hk h17 (hr h17 a0 5) = 6 ∧ call m_X5_actsOf [pA (hr h17 a0 5), pI i1, pI i2] h17 (fun x20 h20 =>
 InR ((Int.tdiv i3 10) - 1) ∧ InR x20 ∧ (((Int.tdiv i3 10) - 1) < x20 →
 InR (Int.tmod i3 10) ∧ InR 4 ∧ ((Int.tmod i3 10) < 4 →
 hk h20 a0 = 7 ∧ hk h20 (hr h20 a0 5) = 6 ∧ call m_X5_actPart [pA (hr h20 a0 5), pI i1, pI i2, pI ((Int.tdiv i3 10) - 1), pI (Int.tmod i3 10)] h20 (fun x21 h21 =>
 Q x21 h21) X) ∧
(4 ≤ (Int.tmod i3 10) →
 Q ((-1)) h20)) ∧
(x20 ≤ ((Int.tdiv i3 10) - 1) →
 Q ((-1)) h20)) X))))) X) X))) X) X) X) : wpc k_X6_handler [] call mc ms fr Q X [] K 400 (pto 0 k_X6_handler) [some (pA a0), some (pI i1), some (pI i2), some (pI i3), z4, z5] [] h c s :=
  H
set_option maxRecDepth 100000 in
theorem v_X6_queue_0 (a0 : Nat) (i1 : Int) (i2 : Int) (i3 : Int) (h : PH) (c s : Nat) (H : hk h a0 = 7 ∧ (c + 1 ≤ mc ∧ s + 6 ≤ ms) ∧ call m_X6_needHall [pA a0] h (fun _ h1 =>
 hk h1 a0 = 7 ∧ ((c + 1) + 1 ≤ mc ∧ (s + 6) + 6 ≤ ms) ∧ call m_X6_needProgram [pA a0, pI i1] h1 (fun _ h2 =>
 InR i2 ∧ (i2 < 0 →
 (((c + 1) + 1) + 1 ≤ mc ∧ ((s + 6) + 6) + 6 ≤ ms) ∧ call m_X6_needIndex [pI 0] h2 (fun _ h3 =>
 InR i3 ∧ (i3 < 0 →
 ((((c + 1) + 1) + 1) + 1 ≤ mc ∧ (((s + 6) + 6) + 6) + 6 ≤ ms) ∧ call m_X6_needArgument [pI 0] h3 (fun _ h4 =>
 hk h4 a0 = 7 ∧ hk h4 (hr h4 a0 6) = 1 ∧ hk h4 a0 = 7 ∧ hk h4 (hr h4 a0 6) = 1 ∧ call m_X0_placeInOrder [pA (hr h4 a0 6), pI i1, pI i2] h4 (fun x5 h5 =>
 hk h5 (hr h4 (hr h4 a0 6) 5) = 2 ∧ call m_X1_part [pA (hr h4 (hr h4 a0 6) 5), pI i1, pI x5, pI i3] h5 (fun x6 h6 =>
 Q x6 h6) X) X) X) ∧
(0 ≤ i3 →
 InR i3 ∧ InR 5 ∧ (i3 < 5 →
 ((((c + 1) + 1) + 1) + 1 ≤ mc ∧ (((s + 6) + 6) + 6) + 6 ≤ ms) ∧ call m_X6_needArgument [pI 1] h3 (fun _ h7 =>
 hk h7 a0 = 7 ∧ hk h7 (hr h7 a0 6) = 1 ∧ hk h7 a0 = 7 ∧ hk h7 (hr h7 a0 6) = 1 ∧ call m_X0_placeInOrder [pA (hr h7 a0 6), pI i1, pI i2] h7 (fun x8 h8 =>
 hk h8 (hr h7 (hr h7 a0 6) 5) = 2 ∧ call m_X1_part [pA (hr h7 (hr h7 a0 6) 5), pI i1, pI x8, pI i3] h8 (fun x9 h9 =>
 Q x9 h9) X) X) X) ∧
(5 ≤ i3 →
 ((((c + 1) + 1) + 1) + 1 ≤ mc ∧ (((s + 6) + 6) + 6) + 6 ≤ ms) ∧ call m_X6_needArgument [pI 0] h3 (fun _ h10 =>
 hk h10 a0 = 7 ∧ hk h10 (hr h10 a0 6) = 1 ∧ hk h10 a0 = 7 ∧ hk h10 (hr h10 a0 6) = 1 ∧ call m_X0_placeInOrder [pA (hr h10 a0 6), pI i1, pI i2] h10 (fun x11 h11 =>
 hk h11 (hr h10 (hr h10 a0 6) 5) = 2 ∧ call m_X1_part [pA (hr h10 (hr h10 a0 6) 5), pI i1, pI x11, pI i3] h11 (fun x12 h12 =>
 Q x12 h12) X) X) X))) X) ∧
(0 ≤ i2 →
 hk h2 a0 = 7 ∧ hk h2 (hr h2 a0 6) = 1 ∧ hk h2 (hr h2 (hr h2 a0 6) 5) = 2 ∧ call m_X1_sizeOf [pA (hr h2 (hr h2 a0 6) 5), pI i1] h2 (fun x13 h13 =>
 InR i2 ∧ InR x13 ∧ (i2 < x13 →
 (((c + 1) + 1) + 1 ≤ mc ∧ ((s + 6) + 6) + 6 ≤ ms) ∧ call m_X6_needIndex [pI 1] h13 (fun _ h14 =>
 InR i3 ∧ (i3 < 0 →
 ((((c + 1) + 1) + 1) + 1 ≤ mc ∧ (((s + 6) + 6) + 6) + 6 ≤ ms) ∧ call m_X6_needArgument [pI 0] h14 (fun _ h15 =>
 hk h15 a0 = 7 ∧ hk h15 (hr h15 a0 6) = 1 ∧ hk h15 a0 = 7 ∧ hk h15 (hr h15 a0 6) = 1 ∧ call m_X0_placeInOrder [pA (hr h15 a0 6), pI i1, pI i2] h15 (fun x16 h16 =>
 hk h16 (hr h15 (hr h15 a0 6) 5) = 2 ∧ call m_X1_part [pA (hr h15 (hr h15 a0 6) 5), pI i1, pI x16, pI i3] h16 (fun x17 h17 =>
 Q x17 h17) X) X) X) ∧
(0 ≤ i3 →
 InR i3 ∧ InR 5 ∧ (i3 < 5 →
 ((((c + 1) + 1) + 1) + 1 ≤ mc ∧ (((s + 6) + 6) + 6) + 6 ≤ ms) ∧ call m_X6_needArgument [pI 1] h14 (fun _ h18 =>
 hk h18 a0 = 7 ∧ hk h18 (hr h18 a0 6) = 1 ∧ hk h18 a0 = 7 ∧ hk h18 (hr h18 a0 6) = 1 ∧ call m_X0_placeInOrder [pA (hr h18 a0 6), pI i1, pI i2] h18 (fun x19 h19 =>
 hk h19 (hr h18 (hr h18 a0 6) 5) = 2 ∧ call m_X1_part [pA (hr h18 (hr h18 a0 6) 5), pI i1, pI x19, pI i3] h19 (fun x20 h20 =>
 Q x20 h20) X) X) X) ∧
(5 ≤ i3 →
 ((((c + 1) + 1) + 1) + 1 ≤ mc ∧ (((s + 6) + 6) + 6) + 6 ≤ ms) ∧ call m_X6_needArgument [pI 0] h14 (fun _ h21 =>
 hk h21 a0 = 7 ∧ hk h21 (hr h21 a0 6) = 1 ∧ hk h21 a0 = 7 ∧ hk h21 (hr h21 a0 6) = 1 ∧ call m_X0_placeInOrder [pA (hr h21 a0 6), pI i1, pI i2] h21 (fun x22 h22 =>
 hk h22 (hr h21 (hr h21 a0 6) 5) = 2 ∧ call m_X1_part [pA (hr h21 (hr h21 a0 6) 5), pI i1, pI x22, pI i3] h22 (fun x23 h23 =>
 Q x23 h23) X) X) X))) X) ∧
(x13 ≤ i2 →
 (((c + 1) + 1) + 1 ≤ mc ∧ ((s + 6) + 6) + 6 ≤ ms) ∧ call m_X6_needIndex [pI 0] h13 (fun _ h24 =>
 InR i3 ∧ (i3 < 0 →
 ((((c + 1) + 1) + 1) + 1 ≤ mc ∧ (((s + 6) + 6) + 6) + 6 ≤ ms) ∧ call m_X6_needArgument [pI 0] h24 (fun _ h25 =>
 hk h25 a0 = 7 ∧ hk h25 (hr h25 a0 6) = 1 ∧ hk h25 a0 = 7 ∧ hk h25 (hr h25 a0 6) = 1 ∧ call m_X0_placeInOrder [pA (hr h25 a0 6), pI i1, pI i2] h25 (fun x26 h26 =>
 hk h26 (hr h25 (hr h25 a0 6) 5) = 2 ∧ call m_X1_part [pA (hr h25 (hr h25 a0 6) 5), pI i1, pI x26, pI i3] h26 (fun x27 h27 =>
 Q x27 h27) X) X) X) ∧
(0 ≤ i3 →
 InR i3 ∧ InR 5 ∧ (i3 < 5 →
 ((((c + 1) + 1) + 1) + 1 ≤ mc ∧ (((s + 6) + 6) + 6) + 6 ≤ ms) ∧ call m_X6_needArgument [pI 1] h24 (fun _ h28 =>
 hk h28 a0 = 7 ∧ hk h28 (hr h28 a0 6) = 1 ∧ hk h28 a0 = 7 ∧ hk h28 (hr h28 a0 6) = 1 ∧ call m_X0_placeInOrder [pA (hr h28 a0 6), pI i1, pI i2] h28 (fun x29 h29 =>
 hk h29 (hr h28 (hr h28 a0 6) 5) = 2 ∧ call m_X1_part [pA (hr h28 (hr h28 a0 6) 5), pI i1, pI x29, pI i3] h29 (fun x30 h30 =>
 Q x30 h30) X) X) X) ∧
(5 ≤ i3 →
 ((((c + 1) + 1) + 1) + 1 ≤ mc ∧ (((s + 6) + 6) + 6) + 6 ≤ ms) ∧ call m_X6_needArgument [pI 0] h24 (fun _ h31 =>
 hk h31 a0 = 7 ∧ hk h31 (hr h31 a0 6) = 1 ∧ hk h31 a0 = 7 ∧ hk h31 (hr h31 a0 6) = 1 ∧ call m_X0_placeInOrder [pA (hr h31 a0 6), pI i1, pI i2] h31 (fun x32 h32 =>
 hk h32 (hr h31 (hr h31 a0 6) 5) = 2 ∧ call m_X1_part [pA (hr h31 (hr h31 a0 6) 5), pI i1, pI x32, pI i3] h32 (fun x33 h33 =>
 Q x33 h33) X) X) X))) X)) X)) X) X) : wpc k_X6_queue [] call mc ms fr Q X [] K 400 (pto 0 k_X6_queue) [some (pA a0), some (pI i1), some (pI i2), some (pI i3)] [] h c s :=
  H
set_option maxRecDepth 100000 in
theorem v_X6_end_0 (a0 : Nat) (i1 : Int) (i2 : Int) (h : PH) (c s : Nat) (H : hk h a0 = 7 ∧ (c + 1 ≤ mc ∧ s + 6 ≤ ms) ∧ call m_X6_needHall [pA a0] h (fun _ h1 =>
 InR i1 ∧ (i1 < 0 →
 ((c + 1) + 1 ≤ mc ∧ (s + 6) + 6 ≤ ms) ∧ call m_X6_needIndex [pI 0] h1 (fun _ h2 =>
 InR i2 ∧ (i2 < 0 →
 (((c + 1) + 1) + 1 ≤ mc ∧ ((s + 6) + 6) + 6 ≤ ms) ∧ call m_X6_needArgument [pI 0] h2 (fun _ h3 =>
 hk h3 a0 = 7 ∧ hk h3 (hr h3 a0 6) = 1 ∧ call m_X0_endPart [pA (hr h3 a0 6), pI i1, pI i2] h3 (fun x4 h4 =>
 Q x4 h4) X) X) ∧
(0 ≤ i2 →
 InR i2 ∧ InR 5 ∧ (i2 < 5 →
 (((c + 1) + 1) + 1 ≤ mc ∧ ((s + 6) + 6) + 6 ≤ ms) ∧ call m_X6_needArgument [pI 1] h2 (fun _ h5 =>
 hk h5 a0 = 7 ∧ hk h5 (hr h5 a0 6) = 1 ∧ call m_X0_endPart [pA (hr h5 a0 6), pI i1, pI i2] h5 (fun x6 h6 =>
 Q x6 h6) X) X) ∧
(5 ≤ i2 →
 (((c + 1) + 1) + 1 ≤ mc ∧ ((s + 6) + 6) + 6 ≤ ms) ∧ call m_X6_needArgument [pI 0] h2 (fun _ h7 =>
 hk h7 a0 = 7 ∧ hk h7 (hr h7 a0 6) = 1 ∧ call m_X0_endPart [pA (hr h7 a0 6), pI i1, pI i2] h7 (fun x8 h8 =>
 Q x8 h8) X) X))) X) ∧
(0 ≤ i1 →
 hk h1 a0 = 7 ∧ hk h1 (hr h1 a0 6) = 1 ∧ call m_X0_told [pA (hr h1 a0 6)] h1 (fun x9 h9 =>
 InR i1 ∧ InR x9 ∧ (i1 < x9 →
 ((c + 1) + 1 ≤ mc ∧ (s + 6) + 6 ≤ ms) ∧ call m_X6_needIndex [pI 1] h9 (fun _ h10 =>
 InR i2 ∧ (i2 < 0 →
 (((c + 1) + 1) + 1 ≤ mc ∧ ((s + 6) + 6) + 6 ≤ ms) ∧ call m_X6_needArgument [pI 0] h10 (fun _ h11 =>
 hk h11 a0 = 7 ∧ hk h11 (hr h11 a0 6) = 1 ∧ call m_X0_endPart [pA (hr h11 a0 6), pI i1, pI i2] h11 (fun x12 h12 =>
 Q x12 h12) X) X) ∧
(0 ≤ i2 →
 InR i2 ∧ InR 5 ∧ (i2 < 5 →
 (((c + 1) + 1) + 1 ≤ mc ∧ ((s + 6) + 6) + 6 ≤ ms) ∧ call m_X6_needArgument [pI 1] h10 (fun _ h13 =>
 hk h13 a0 = 7 ∧ hk h13 (hr h13 a0 6) = 1 ∧ call m_X0_endPart [pA (hr h13 a0 6), pI i1, pI i2] h13 (fun x14 h14 =>
 Q x14 h14) X) X) ∧
(5 ≤ i2 →
 (((c + 1) + 1) + 1 ≤ mc ∧ ((s + 6) + 6) + 6 ≤ ms) ∧ call m_X6_needArgument [pI 0] h10 (fun _ h15 =>
 hk h15 a0 = 7 ∧ hk h15 (hr h15 a0 6) = 1 ∧ call m_X0_endPart [pA (hr h15 a0 6), pI i1, pI i2] h15 (fun x16 h16 =>
 Q x16 h16) X) X))) X) ∧
(x9 ≤ i1 →
 ((c + 1) + 1 ≤ mc ∧ (s + 6) + 6 ≤ ms) ∧ call m_X6_needIndex [pI 0] h9 (fun _ h17 =>
 InR i2 ∧ (i2 < 0 →
 (((c + 1) + 1) + 1 ≤ mc ∧ ((s + 6) + 6) + 6 ≤ ms) ∧ call m_X6_needArgument [pI 0] h17 (fun _ h18 =>
 hk h18 a0 = 7 ∧ hk h18 (hr h18 a0 6) = 1 ∧ call m_X0_endPart [pA (hr h18 a0 6), pI i1, pI i2] h18 (fun x19 h19 =>
 Q x19 h19) X) X) ∧
(0 ≤ i2 →
 InR i2 ∧ InR 5 ∧ (i2 < 5 →
 (((c + 1) + 1) + 1 ≤ mc ∧ ((s + 6) + 6) + 6 ≤ ms) ∧ call m_X6_needArgument [pI 1] h17 (fun _ h20 =>
 hk h20 a0 = 7 ∧ hk h20 (hr h20 a0 6) = 1 ∧ call m_X0_endPart [pA (hr h20 a0 6), pI i1, pI i2] h20 (fun x21 h21 =>
 Q x21 h21) X) X) ∧
(5 ≤ i2 →
 (((c + 1) + 1) + 1 ≤ mc ∧ ((s + 6) + 6) + 6 ≤ ms) ∧ call m_X6_needArgument [pI 0] h17 (fun _ h22 =>
 hk h22 a0 = 7 ∧ hk h22 (hr h22 a0 6) = 1 ∧ call m_X0_endPart [pA (hr h22 a0 6), pI i1, pI i2] h22 (fun x23 h23 =>
 Q x23 h23) X) X))) X)) X)) X) : wpc k_X6_end [] call mc ms fr Q X [] K 400 (pto 0 k_X6_end) [some (pA a0), some (pI i1), some (pI i2)] [] h c s :=
  H
set_option maxRecDepth 100000 in
theorem v_X6_next_0 (a0 : Nat) (i1 : Int) (z2 : Option PV) (h : PH) (c s : Nat) (H : hk h a0 = 7 ∧ (c + 1 ≤ mc ∧ s + 6 ≤ ms) ∧ call m_X6_needHall [pA a0] h (fun _ h1 =>
 hk h1 a0 = 7 ∧ ((c + 1) + 1 ≤ mc ∧ (s + 6) + 6 ≤ ms) ∧ call m_X6_needProgram [pA a0, pI i1] h1 (fun _ h2 =>
 hk h2 a0 = 7 ∧ hk h2 (hr h2 a0 6) = 1 ∧ call m_X0_firstUnmasked [pA (hr h2 a0 6), pI i1] h2 (fun x3 h3 =>
 InR x3 ∧ InR ((-1)) ∧ (x3 = ((-1)) →
 Q ((-1)) h3) ∧
(x3 ≠ ((-1)) →
 hk h3 a0 = 7 ∧ hk h3 (hr h3 a0 6) = 1 ∧ hk h3 (hr h3 (hr h3 a0 6) 5) = 2 ∧ call m_X1_part [pA (hr h3 (hr h3 a0 6) 5), pI i1, pI x3, pI 0] h3 (fun x4 h4 =>
 Q x4 h4) X)) X) X) X) : wpc k_X6_next [] call mc ms fr Q X [] K 400 (pto 0 k_X6_next) [some (pA a0), some (pI i1), z2] [] h c s :=
  H
end VCS
theorem S_X6_setting {d : Nat} {h : PH} {B A : Nat} {EP E D : Nat → Int → Int} {s : Int → Int} {N : Int} {Q : Int → PH → Prop} {X : Nat → PH → Prop} {w : Int} (T : FT h B A EP E D s) (W : WD D s N) (hvw : InR w) (H : ∀ x : Int, ck (tL D) w 0 (3) 2 = 0 → x = (if w = 3 then D 0 2 else s (10 + w)) → Q x h) (HX : ∀ (e n' : Nat), (ck (tL D) w 0 (3) 2 = 1 ∧ e = 0 ∨ ck (tL D) w 0 (3) 2 = 2 ∧ e = 1) → hn h ≤ n' → X e (hup h n')) : RUN GQ (d + 7) m_X6_setting [pA 64, pI w] h Q X := by
  obtain ⟨w1, w2, w3, wN, ws1, wI⟩ := id W
  have kL := tL_or D
  have M := T.M
  have L := T.L
  have k1 := ck_or (tL D) w 0 (3) 2
  rw [e_X6_setting]
  refine WP.of (RUN.mono GQ _) (cuts := []) (n := 400) (v_X6_setting_0 _ _ _ _ _ ?_)
  refine ⟨T.k, ?_⟩
  refine ⟨⟨by omega, by omega⟩, ?_⟩
  refine S_X6_needHall T (fun c1 => ?_) (fun c1 n1 l1 => ?_)
  · obtain ⟨I, V, sw⟩ := wI (by omega)
    obtain ⟨R, U⟩ := T.u (by omega)
    obtain ⟨v2, v3, v4, vh⟩ := id V
    have I1 := I.e1
    have I2 := I.e2
    refine ⟨ir (by omega) (by omega), fun c5 => ?_, fun c5 => ?_⟩
    · refine ⟨⟨by omega, by omega⟩, ?_⟩
      refine S_X6_needArgument (by omega) (fun c18 => ?_) (fun c18 n18 l18 => ?_)
      · exact absurd rfl c18
      · exact HX 1 _ (by omega) l18
    · refine ⟨ir (by omega) (by omega), ir (by omega) (by omega), fun c10 => ?_, fun c10 => ?_⟩
      · refine ⟨⟨by omega, by omega⟩, ?_⟩
        refine S_X6_needArgument (by omega) (fun c18 => ?_) (fun c18 n18 l18 => ?_)
        · refine ⟨T.k, ?_⟩
          try rw [T.r6]
          refine ⟨Bx.k M 0 (by decide) rfl, ?_⟩
          refine S_X0_settingOf M (by omega) (fun x26 e26 => ?_)
          subst e26
          first
          | (exfalso; omega)
          | (refine H _ (by omega) ?_
             by_cases q : w = 3
             · rw [if_pos q, q]; exact R.cap
             · rw [if_neg q]; exact R.set (by omega))
        · exact absurd c18 (by decide)
      · refine ⟨⟨by omega, by omega⟩, ?_⟩
        refine S_X6_needArgument (by omega) (fun c18 => ?_) (fun c18 n18 l18 => ?_)
        · exact absurd rfl c18
        · exact HX 1 _ (by omega) l18
  · exact HX 0 _ (by omega) l1
theorem S_X6_kind {d : Nat} {h : PH} {B A : Nat} {EP E D : Nat → Int → Int} {s : Int → Int} {N : Int} {Q : Int → PH → Prop} {X : Nat → PH → Prop} {k w : Int} (T : FT h B A EP E D s) (W : WD D s N) (hvk : InR k) (hvw : InR w) (H : ∀ x : Int, ck (ck (tL D) k 0 (D 0 3 - 1) 2) w 0 (2) 3 = 0 → x = kn s k w → Q x h) (HX : ∀ (e n' : Nat), (ck (ck (tL D) k 0 (D 0 3 - 1) 2) w 0 (2) 3 = 1 ∧ e = 0 ∨ ck (ck (tL D) k 0 (D 0 3 - 1) 2) w 0 (2) 3 = 2 ∧ e = 2 ∨ ck (ck (tL D) k 0 (D 0 3 - 1) 2) w 0 (2) 3 = 3 ∧ e = 1) → hn h ≤ n' → X e (hup h n')) : RUN GQ (d + 8) m_X6_kind [pA 64, pI k, pI w] h Q X := by
  obtain ⟨w1, w2, w3, wN, ws1, wI⟩ := id W
  have kL := tL_or D
  have M := T.M
  have L := T.L
  have k1 := ck_or (tL D) k 0 (D 0 3 - 1) 2
  have k2 := ck_or (ck (tL D) k 0 (D 0 3 - 1) 2) w 0 (2) 3
  rw [e_X6_kind]
  refine WP.of (RUN.mono GQ _) (cuts := []) (n := 400) (v_X6_kind_0 _ _ _ _ _ _ ?_)
  refine ⟨T.k, ?_⟩
  refine ⟨⟨by omega, by omega⟩, ?_⟩
  refine S_X6_needHall T (fun c1 => ?_) (fun c1 n1 l1 => ?_)
  · obtain ⟨I, V, sw⟩ := wI (by omega)
    obtain ⟨R, U⟩ := T.u (by omega)
    obtain ⟨v2, v3, v4, vh⟩ := id V
    have I1 := I.e1
    have I2 := I.e2
    refine ⟨T.k, ?_⟩
    refine ⟨⟨by omega, by omega⟩, ?_⟩
    refine S_X6_needKind T U V (by omega) (fun c6 => ?_) (fun c6 n6 l6 => ?_)
    · refine ⟨ir (by omega) (by omega), fun c10 => ?_, fun c10 => ?_⟩
      · refine ⟨⟨by omega, by omega⟩, ?_⟩
        refine S_X6_needArgument (by omega) (fun c23 => ?_) (fun c23 n23 l23 => ?_)
        · exact absurd rfl c23
        · exact HX 1 _ (by omega) l23
      · refine ⟨ir (by omega) (by omega), ir (by omega) (by omega), fun c15 => ?_, fun c15 => ?_⟩
        · refine ⟨⟨by omega, by omega⟩, ?_⟩
          refine S_X6_needArgument (by omega) (fun c23 => ?_) (fun c23 n23 l23 => ?_)
          · refine ⟨T.k, ?_⟩
            try rw [T.r6]
            refine ⟨Bx.k M 0 (by decide) rfl, ?_⟩
            refine S_X0_kindNumber M R (by omega) (by omega) (by omega) (fun x32 e32 => ?_)
            subst e32
            first
            | (exfalso; omega)
            | (refine H _ (by omega) ?_
               first | rfl | assumption)
          · exact absurd c23 (by decide)
        · refine ⟨⟨by omega, by omega⟩, ?_⟩
          refine S_X6_needArgument (by omega) (fun c23 => ?_) (fun c23 n23 l23 => ?_)
          · exact absurd rfl c23
          · exact HX 1 _ (by omega) l23
    · exact HX 2 _ (by omega) l6
  · exact HX 0 _ (by omega) l1
theorem S_X6_urgency {d : Nat} {h : PH} {B A : Nat} {EP E D : Nat → Int → Int} {s : Int → Int} {N : Int} {Q : Int → PH → Prop} {X : Nat → PH → Prop} {p k : Int} (T : FT h B A EP E D s) (W : WD D s N) (hvp : InR p) (hvk : InR k) (H : ∀ x : Int, ck (ck (tL D) p 0 (D 0 4 - 1) 2) k 0 (D 0 3 - 1) 2 = 0 → x = ur s p k → Q x h) (HX : ∀ (e n' : Nat), (ck (ck (tL D) p 0 (D 0 4 - 1) 2) k 0 (D 0 3 - 1) 2 = 1 ∧ e = 0 ∨ ck (ck (tL D) p 0 (D 0 4 - 1) 2) k 0 (D 0 3 - 1) 2 = 2 ∧ e = 2) → hn h ≤ n' → X e (hup h n')) : RUN GQ (d + 8) m_X6_urgency [pA 64, pI p, pI k] h Q X := by
  obtain ⟨w1, w2, w3, wN, ws1, wI⟩ := id W
  have kL := tL_or D
  have M := T.M
  have L := T.L
  have k1 := ck_or (tL D) p 0 (D 0 4 - 1) 2
  have k2 := ck_or (ck (tL D) p 0 (D 0 4 - 1) 2) k 0 (D 0 3 - 1) 2
  rw [e_X6_urgency]
  refine WP.of (RUN.mono GQ _) (cuts := []) (n := 400) (v_X6_urgency_0 _ _ _ _ _ _ ?_)
  refine ⟨T.k, ?_⟩
  refine ⟨⟨by omega, by omega⟩, ?_⟩
  refine S_X6_needHall T (fun c1 => ?_) (fun c1 n1 l1 => ?_)
  · obtain ⟨I, V, sw⟩ := wI (by omega)
    obtain ⟨R, U⟩ := T.u (by omega)
    obtain ⟨v2, v3, v4, vh⟩ := id V
    have I1 := I.e1
    have I2 := I.e2
    refine ⟨T.k, ?_⟩
    refine ⟨⟨by omega, by omega⟩, ?_⟩
    refine S_X6_needProgram T U V (by omega) (fun c6 => ?_) (fun c6 n6 l6 => ?_)
    · refine ⟨T.k, ?_⟩
      refine ⟨⟨by omega, by omega⟩, ?_⟩
      refine S_X6_needKind T U V (by omega) (fun c11 => ?_) (fun c11 n11 l11 => ?_)
      · refine ⟨T.k, ?_⟩
        try rw [T.r6]
        refine ⟨Bx.k M 0 (by decide) rfl, ?_⟩
        refine S_X0_urgencyOf M R I (by omega) (by omega) (by omega) (fun x20 e20 => ?_)
        subst e20
        first
        | (exfalso; omega)
        | (refine H _ (by omega) ?_
           first | rfl | assumption)
      · exact HX 2 _ (by omega) l11
    · exact HX 2 _ (by omega) l6
  · exact HX 0 _ (by omega) l1
theorem S_X6_tiredness {d : Nat} {h : PH} {B A : Nat} {EP E D : Nat → Int → Int} {s : Int → Int} {N : Int} {Q : Int → PH → Prop} {X : Nat → PH → Prop} {p k : Int} (T : FT h B A EP E D s) (W : WD D s N) (hvp : InR p) (hvk : InR k) (H : ∀ x : Int, ck (ck (tL D) p 0 (D 0 4 - 1) 2) k 0 (D 0 3 - 1) 2 = 0 → x = td s p k → Q x h) (HX : ∀ (e n' : Nat), (ck (ck (tL D) p 0 (D 0 4 - 1) 2) k 0 (D 0 3 - 1) 2 = 1 ∧ e = 0 ∨ ck (ck (tL D) p 0 (D 0 4 - 1) 2) k 0 (D 0 3 - 1) 2 = 2 ∧ e = 2) → hn h ≤ n' → X e (hup h n')) : RUN GQ (d + 8) m_X6_tiredness [pA 64, pI p, pI k] h Q X := by
  obtain ⟨w1, w2, w3, wN, ws1, wI⟩ := id W
  have kL := tL_or D
  have M := T.M
  have L := T.L
  have k1 := ck_or (tL D) p 0 (D 0 4 - 1) 2
  have k2 := ck_or (ck (tL D) p 0 (D 0 4 - 1) 2) k 0 (D 0 3 - 1) 2
  rw [e_X6_tiredness]
  refine WP.of (RUN.mono GQ _) (cuts := []) (n := 400) (v_X6_tiredness_0 _ _ _ _ _ _ ?_)
  refine ⟨T.k, ?_⟩
  refine ⟨⟨by omega, by omega⟩, ?_⟩
  refine S_X6_needHall T (fun c1 => ?_) (fun c1 n1 l1 => ?_)
  · obtain ⟨I, V, sw⟩ := wI (by omega)
    obtain ⟨R, U⟩ := T.u (by omega)
    obtain ⟨v2, v3, v4, vh⟩ := id V
    have I1 := I.e1
    have I2 := I.e2
    refine ⟨T.k, ?_⟩
    refine ⟨⟨by omega, by omega⟩, ?_⟩
    refine S_X6_needProgram T U V (by omega) (fun c6 => ?_) (fun c6 n6 l6 => ?_)
    · refine ⟨T.k, ?_⟩
      refine ⟨⟨by omega, by omega⟩, ?_⟩
      refine S_X6_needKind T U V (by omega) (fun c11 => ?_) (fun c11 n11 l11 => ?_)
      · refine ⟨T.k, ?_⟩
        try rw [T.r6]
        refine ⟨Bx.k M 0 (by decide) rfl, ?_⟩
        refine S_X0_tiredOf M R I (by omega) (by omega) (fun x20 e20 => ?_)
        subst e20
        first
        | (exfalso; omega)
        | (refine H _ (by omega) ?_
           first | rfl | assumption)
      · exact HX 2 _ (by omega) l11
    · exact HX 2 _ (by omega) l6
  · exact HX 0 _ (by omega) l1
theorem S_X6_program {d : Nat} {h : PH} {B A : Nat} {EP E D : Nat → Int → Int} {s : Int → Int} {N : Int} {Q : Int → PH → Prop} {X : Nat → PH → Prop} {p w : Int} (T : FT h B A EP E D s) (W : WD D s N) (hvp : InR p) (hvw : InR w) (H : ∀ x : Int, ck (ck (tL D) p 0 (D 0 4 - 1) 2) w 0 (7) 3 = 0 → x = prgv D s p w → Q x h) (HX : ∀ (e n' : Nat), (ck (ck (tL D) p 0 (D 0 4 - 1) 2) w 0 (7) 3 = 1 ∧ e = 0 ∨ ck (ck (tL D) p 0 (D 0 4 - 1) 2) w 0 (7) 3 = 2 ∧ e = 2 ∨ ck (ck (tL D) p 0 (D 0 4 - 1) 2) w 0 (7) 3 = 3 ∧ e = 1) → hn h ≤ n' → X e (hup h n')) : RUN GQ (d + 8) m_X6_program [pA 64, pI p, pI w] h Q X := by
  obtain ⟨w1, w2, w3, wN, ws1, wI⟩ := id W
  have kL := tL_or D
  have M := T.M
  have L := T.L
  have k1 := ck_or (tL D) p 0 (D 0 4 - 1) 2
  have k2 := ck_or (ck (tL D) p 0 (D 0 4 - 1) 2) w 0 (7) 3
  rw [e_X6_program]
  refine WP.of (RUN.mono GQ _) (cuts := []) (n := 400) (v_X6_program_0 _ _ _ _ _ _ ?_)
  refine ⟨T.k, ?_⟩
  refine ⟨⟨by omega, by omega⟩, ?_⟩
  refine S_X6_needHall T (fun c1 => ?_) (fun c1 n1 l1 => ?_)
  · obtain ⟨I, V, sw⟩ := wI (by omega)
    obtain ⟨R, U⟩ := T.u (by omega)
    obtain ⟨v2, v3, v4, vh⟩ := id V
    have I1 := I.e1
    have I2 := I.e2
    refine ⟨T.k, ?_⟩
    refine ⟨⟨by omega, by omega⟩, ?_⟩
    refine S_X6_needProgram T U V (by omega) (fun c6 => ?_) (fun c6 n6 l6 => ?_)
    · have hp6 : 0 ≤ p ∧ p < 6 := by omega
      have q0 := I.qn hp6
      have q13 := I.hq.1
      have s0 := I.sn hp6
      refine ⟨ir (by omega) (by omega), fun c10 => ?_, fun c10 => ?_⟩
      · refine ⟨⟨by omega, by omega⟩, ?_⟩
        refine S_X6_needArgument (by omega) (fun c24 => ?_) (fun c24 n24 l24 => ?_)
        · exact absurd rfl c24
        · exact HX 1 _ (by omega) l24
      · refine ⟨ir (by omega) (by omega), ir (by omega) (by omega), fun c16 => ?_, fun c16 => ?_⟩
        · refine ⟨⟨by omega, by omega⟩, ?_⟩
          refine S_X6_needArgument (by omega) (fun c24 => ?_) (fun c24 n24 l24 => ?_)
          · exact absurd rfl c24
          · exact HX 1 _ (by omega) l24
        · refine ⟨⟨by omega, by omega⟩, ?_⟩
          refine S_X6_needArgument (by omega) (fun c24 => ?_) (fun c24 n24 l24 => ?_)
          · refine ⟨ir (by omega) (by omega), fun c28 => ?_, fun c28 => ?_, fun c28 => ?_, fun c28 => ?_, fun c28 => ?_, trivial⟩
            · refine ⟨T.k, ?_⟩
              try rw [T.r6]
              refine ⟨Bx.k M 0 (by decide) rfl, ?_⟩
              refine S_X0_tally M R I (by omega) (by omega) (fun x110 e110 => ?_)
              subst e110
              first
              | (exfalso; omega)
              | (refine H _ (by omega) ?_
                 unfold prgv
                 (repeat' split) <;> first | rfl | (exfalso; omega) | (rw [show 91 + 4 * p + w - 4 = 91 + 4 * p + (w - 4) by omega]; done))
            · refine ⟨T.k, ?_⟩
              try rw [T.r6]
              refine ⟨Bx.k M 0 (by decide) rfl, ?_⟩
              try rw [show hr h A 5 = A + 6 from Bx.r M 0 5 6 (by decide)]
              refine ⟨Bx.k M 6 (by decide) rfl, ?_⟩
              refine S_X1_sizeOf_qR M R I (by omega) (fun x68 e68 => ?_)
              subst e68
              first
              | (exfalso; omega)
              | (refine H _ (by omega) ?_
                 unfold prgv
                 (repeat' split) <;> first | rfl | (exfalso; omega) | (rw [show 91 + 4 * p + w - 4 = 91 + 4 * p + (w - 4) by omega]; done))
            · refine ⟨T.k, ?_⟩
              try rw [T.r6]
              refine ⟨Bx.k M 0 (by decide) rfl, ?_⟩
              try rw [show hr h A 6 = A + 9 from Bx.r M 0 6 9 (by decide)]
              refine ⟨Bx.k M 9 (by decide) rfl, ?_⟩
              refine S_X1_sizeOf_sR M R I (by omega) (fun x80 e80 => ?_)
              subst e80
              first
              | (exfalso; omega)
              | (refine H _ (by omega) ?_
                 unfold prgv
                 (repeat' split) <;> first | rfl | (exfalso; omega) | (rw [show 91 + 4 * p + w - 4 = 91 + 4 * p + (w - 4) by omega]; done))
            · refine ⟨T.k, ?_⟩
              try rw [T.r6]
              refine ⟨Bx.k M 0 (by decide) rfl, ?_⟩
              refine S_X0_maskOf M R I (by omega) (fun x89 e89 => ?_)
              subst e89
              first
              | (exfalso; omega)
              | (refine H _ (by omega) ?_
                 unfold prgv
                 (repeat' split) <;> first | rfl | (exfalso; omega) | (rw [show 91 + 4 * p + w - 4 = 91 + 4 * p + (w - 4) by omega]; done))
            · refine ⟨T.k, ?_⟩
              try rw [T.r5]
              refine ⟨Bx.k L 0 (by decide) rfl, ?_⟩
              refine S_X5_handlersOf L U V (by omega) (fun x98 e98 => ?_)
              subst e98
              first
              | (exfalso; omega)
              | (refine H _ (by omega) ?_
                 unfold prgv
                 (repeat' split) <;> first | rfl | (exfalso; omega) | (rw [show 91 + 4 * p + w - 4 = 91 + 4 * p + (w - 4) by omega]; done))
          · exact absurd c24 (by decide)
    · exact HX 2 _ (by omega) l6
  · exact HX 0 _ (by omega) l1
theorem S_X6_count {d : Nat} {h : PH} {B A : Nat} {EP E D : Nat → Int → Int} {s : Int → Int} {N : Int} {Q : Int → PH → Prop} {X : Nat → PH → Prop} {w : Int} (T : FT h B A EP E D s) (W : WD D s N) (hvw : InR w) (H : ∀ x : Int, ck (tL D) w 0 (13) 2 = 0 → x = cntv D s w → Q x h) (HX : ∀ (e n' : Nat), (ck (tL D) w 0 (13) 2 = 1 ∧ e = 0 ∨ ck (tL D) w 0 (13) 2 = 2 ∧ e = 1) → hn h ≤ n' → X e (hup h n')) : RUN GQ (d + 7) m_X6_count [pA 64, pI w] h Q X := by
  obtain ⟨w1, w2, w3, wN, ws1, wI⟩ := id W
  have kL := tL_or D
  have M := T.M
  have L := T.L
  have k1 := ck_or (tL D) w 0 (13) 2
  rw [e_X6_count]
  refine WP.of (RUN.mono GQ _) (cuts := []) (n := 400) (v_X6_count_0 _ _ _ _ _ ?_)
  refine ⟨T.k, ?_⟩
  refine ⟨⟨by omega, by omega⟩, ?_⟩
  refine S_X6_needHall T (fun c1 => ?_) (fun c1 n1 l1 => ?_)
  · obtain ⟨I, V, sw⟩ := wI (by omega)
    obtain ⟨R, U⟩ := T.u (by omega)
    obtain ⟨v2, v3, v4, vh⟩ := id V
    have I1 := I.e1
    have I2 := I.e2
    refine ⟨ir (by omega) (by omega), fun c5 => ?_, fun c5 => ?_⟩
    · refine ⟨⟨by omega, by omega⟩, ?_⟩
      refine S_X6_needArgument (by omega) (fun c19 => ?_) (fun c19 n19 l19 => ?_)
      · exact absurd rfl c19
      · exact HX 1 _ (by omega) l19
    · refine ⟨ir (by omega) (by omega), ir (by omega) (by omega), fun c11 => ?_, fun c11 => ?_⟩
      · refine ⟨⟨by omega, by omega⟩, ?_⟩
        refine S_X6_needArgument (by omega) (fun c19 => ?_) (fun c19 n19 l19 => ?_)
        · exact absurd rfl c19
        · exact HX 1 _ (by omega) l19
      · refine ⟨⟨by omega, by omega⟩, ?_⟩
        refine S_X6_needArgument (by omega) (fun c19 => ?_) (fun c19 n19 l19 => ?_)
        · refine ⟨ir (by omega) (by omega), fun c23 => ?_, fun c23 => ?_, fun c23 => ?_, fun c23 => ?_, fun c23 => ?_, fun c23 => ?_, fun c23 => ?_, fun c23 => ?_, fun c23 => ?_, fun c23 => ?_, fun c23 => ?_, fun c23 => ?_, fun c23 => ?_, fun c23 => ?_, fun c23 => ?_, trivial⟩
          · refine ⟨T.k, ?_⟩
            try rw [T.r6]
            refine ⟨Bx.k M 0 (by decide) rfl, ?_⟩
            refine S_X0_endedBy M R I (by omega) (fun x176 e176 => ?_)
            subst e176
            first
            | (exfalso; omega)
            | (refine H _ (by omega) ?_
               unfold cntv
               (repeat' split) <;> first | rfl | exact U.k | exact U.p | exact R.fl.2.1 | exact R.fl.2.2.1 | (exfalso; omega) | (rw [show 4 + w - 7 = 4 + (w - 7) by omega]; done))
          · refine ⟨T.k, ?_⟩
            try rw [T.r5]
            refine ⟨Bx.k L 0 (by decide) rfl, ?_⟩
            try rw [show hr h B 0 = B + 1 from Bx.r L 0 0 1 (by decide)]
            refine ⟨Bx.k L 1 (by decide) rfl, ?_⟩
            try rw [show hi h (B + 1) 2 = _ from Bx.f2 L 1 (by decide)]
            rw [U.k]
            first
            | (exfalso; omega)
            | (refine H _ (by omega) ?_
               unfold cntv
               (repeat' split) <;> first | rfl | exact U.k | exact U.p | exact R.fl.2.1 | exact R.fl.2.2.1 | (exfalso; omega) | (rw [show 4 + w - 7 = 4 + (w - 7) by omega]; done))
          · refine ⟨T.k, ?_⟩
            try rw [T.r5]
            refine ⟨Bx.k L 0 (by decide) rfl, ?_⟩
            try rw [show hr h B 1 = B + 4 from Bx.r L 0 1 4 (by decide)]
            refine ⟨Bx.k L 4 (by decide) rfl, ?_⟩
            try rw [show hi h (B + 4) 2 = _ from Bx.f2 L 4 (by decide)]
            rw [U.p]
            first
            | (exfalso; omega)
            | (refine H _ (by omega) ?_
               unfold cntv
               (repeat' split) <;> first | rfl | exact U.k | exact U.p | exact R.fl.2.1 | exact R.fl.2.2.1 | (exfalso; omega) | (rw [show 4 + w - 7 = 4 + (w - 7) by omega]; done))
          · refine ⟨T.k, ?_⟩
            try rw [T.r5]
            refine ⟨Bx.k L 0 (by decide) rfl, ?_⟩
            refine S_X5_handlersInAll L U V (fun x118 e118 => ?_)
            subst e118
            rw [hal_5 U V]
            first
            | (exfalso; omega)
            | (refine H _ (by omega) ?_
               unfold cntv
               (repeat' split) <;> first | rfl | exact U.k | exact U.p | exact R.fl.2.1 | exact R.fl.2.2.1 | (exfalso; omega) | (rw [show 4 + w - 7 = 4 + (w - 7) by omega]; done))
          · refine ⟨T.k, ?_⟩
            try rw [T.r6]
            refine ⟨Bx.k M 0 (by decide) rfl, ?_⟩
            try rw [show hi h A 10 = _ from Bx.f10 M 0 (by decide)]
            first
            | (exfalso; omega)
            | (refine H _ (by omega) ?_
               unfold cntv
               (repeat' split) <;> first | rfl | exact U.k | exact U.p | exact R.fl.2.1 | exact R.fl.2.2.1 | (exfalso; omega) | (rw [show 4 + w - 7 = 4 + (w - 7) by omega]; done))
          · refine ⟨T.k, ?_⟩
            try rw [T.r6]
            refine ⟨Bx.k M 0 (by decide) rfl, ?_⟩
            try rw [show hi h A 11 = _ from Bx.f11 M 0 (by decide)]
            first
            | (exfalso; omega)
            | (refine H _ (by omega) ?_
               unfold cntv
               (repeat' split) <;> first | rfl | exact U.k | exact U.p | exact R.fl.2.1 | exact R.fl.2.2.1 | (exfalso; omega) | (rw [show 4 + w - 7 = 4 + (w - 7) by omega]; done))
          · refine ⟨T.k, ?_⟩
            try rw [T.r6]
            refine ⟨Bx.k M 0 (by decide) rfl, ?_⟩
            try rw [show hr h A 5 = A + 6 from Bx.r M 0 5 6 (by decide)]
            refine ⟨Bx.k M 6 (by decide) rfl, ?_⟩
            refine S_X1_total_q M R I (fun x145 e145 => ?_)
            subst e145
            rw [suml_6 I (Or.inl rfl) v4]
            first
            | (exfalso; omega)
            | (refine H _ (by omega) ?_
               unfold cntv
               (repeat' split) <;> first | rfl | exact U.k | exact U.p | exact R.fl.2.1 | exact R.fl.2.2.1 | (exfalso; omega) | (rw [show 4 + w - 7 = 4 + (w - 7) by omega]; done))
          · refine ⟨T.k, ?_⟩
            try rw [T.r6]
            refine ⟨Bx.k M 0 (by decide) rfl, ?_⟩
            try rw [show hr h A 6 = A + 9 from Bx.r M 0 6 9 (by decide)]
            refine ⟨Bx.k M 9 (by decide) rfl, ?_⟩
            refine S_X1_total_s M R I (fun x156 e156 => ?_)
            subst e156
            rw [suml_6 I (Or.inr rfl) v4]
            first
            | (exfalso; omega)
            | (refine H _ (by omega) ?_
               unfold cntv
               (repeat' split) <;> first | rfl | exact U.k | exact U.p | exact R.fl.2.1 | exact R.fl.2.2.1 | (exfalso; omega) | (rw [show 4 + w - 7 = 4 + (w - 7) by omega]; done))
          · refine ⟨T.k, ?_⟩
            try rw [T.r6]
            refine ⟨Bx.k M 0 (by decide) rfl, ?_⟩
            refine S_X0_endedBy M R I (by omega) (fun x176 e176 => ?_)
            subst e176
            first
            | (exfalso; omega)
            | (refine H _ (by omega) ?_
               unfold cntv
               (repeat' split) <;> first | rfl | exact U.k | exact U.p | exact R.fl.2.1 | exact R.fl.2.2.1 | (exfalso; omega) | (rw [show 4 + w - 7 = 4 + (w - 7) by omega]; done))
          · refine ⟨T.k, ?_⟩
            try rw [T.r6]
            refine ⟨Bx.k M 0 (by decide) rfl, ?_⟩
            refine S_X0_endedBy M R I (by omega) (fun x176 e176 => ?_)
            subst e176
            first
            | (exfalso; omega)
            | (refine H _ (by omega) ?_
               unfold cntv
               (repeat' split) <;> first | rfl | exact U.k | exact U.p | exact R.fl.2.1 | exact R.fl.2.2.1 | (exfalso; omega) | (rw [show 4 + w - 7 = 4 + (w - 7) by omega]; done))
          · refine ⟨T.k, ?_⟩
            try rw [T.r6]
            refine ⟨Bx.k M 0 (by decide) rfl, ?_⟩
            refine S_X0_endedBy M R I (by omega) (fun x176 e176 => ?_)
            subst e176
            first
            | (exfalso; omega)
            | (refine H _ (by omega) ?_
               unfold cntv
               (repeat' split) <;> first | rfl | exact U.k | exact U.p | exact R.fl.2.1 | exact R.fl.2.2.1 | (exfalso; omega) | (rw [show 4 + w - 7 = 4 + (w - 7) by omega]; done))
          · refine ⟨T.k, ?_⟩
            try rw [T.r6]
            refine ⟨Bx.k M 0 (by decide) rfl, ?_⟩
            refine S_X0_endedBy M R I (by omega) (fun x176 e176 => ?_)
            subst e176
            first
            | (exfalso; omega)
            | (refine H _ (by omega) ?_
               unfold cntv
               (repeat' split) <;> first | rfl | exact U.k | exact U.p | exact R.fl.2.1 | exact R.fl.2.2.1 | (exfalso; omega) | (rw [show 4 + w - 7 = 4 + (w - 7) by omega]; done))
          · refine ⟨T.k, ?_⟩
            try rw [T.r6]
            refine ⟨Bx.k M 0 (by decide) rfl, ?_⟩
            refine S_X0_endedBy M R I (by omega) (fun x176 e176 => ?_)
            subst e176
            first
            | (exfalso; omega)
            | (refine H _ (by omega) ?_
               unfold cntv
               (repeat' split) <;> first | rfl | exact U.k | exact U.p | exact R.fl.2.1 | exact R.fl.2.2.1 | (exfalso; omega) | (rw [show 4 + w - 7 = 4 + (w - 7) by omega]; done))
          · refine ⟨T.k, ?_⟩
            try rw [T.r6]
            refine ⟨Bx.k M 0 (by decide) rfl, ?_⟩
            refine S_X0_endedBy M R I (by omega) (fun x176 e176 => ?_)
            subst e176
            first
            | (exfalso; omega)
            | (refine H _ (by omega) ?_
               unfold cntv
               (repeat' split) <;> first | rfl | exact U.k | exact U.p | exact R.fl.2.1 | exact R.fl.2.2.1 | (exfalso; omega) | (rw [show 4 + w - 7 = 4 + (w - 7) by omega]; done))
          · refine ⟨T.k, ?_⟩
            try rw [T.r6]
            refine ⟨Bx.k M 0 (by decide) rfl, ?_⟩
            refine S_X0_told M R I (by omega) (fun x164 e164 => ?_)
            subst e164
            first
            | (exfalso; omega)
            | (refine H _ (by omega) ?_
               unfold cntv
               (repeat' split) <;> first | rfl | exact U.k | exact U.p | exact R.fl.2.1 | exact R.fl.2.2.1 | (exfalso; omega) | (rw [show 4 + w - 7 = 4 + (w - 7) by omega]; done))
        · exact absurd c19 (by decide)
  · exact HX 0 _ (by omega) l1
theorem S_X6_handler {d : Nat} {h : PH} {B A : Nat} {EP E D : Nat → Int → Int} {s : Int → Int} {N : Int} {Q : Int → PH → Prop} {X : Nat → PH → Prop} {p k w : Int} (T : FT h B A EP E D s) (W : WD D s N) (hvp : InR p) (hvk : InR k) (hvw : InR w) (H : ∀ x : Int, ck (ck (ck (tL D) p 0 (D 0 4 - 1) 2) k 0 (D 0 3 - 1) 2) w 0 (49) 3 = 0 → x = hdlv D p k w → Q x h) (HX : ∀ (e n' : Nat), (ck (ck (ck (tL D) p 0 (D 0 4 - 1) 2) k 0 (D 0 3 - 1) 2) w 0 (49) 3 = 1 ∧ e = 0 ∨ ck (ck (ck (tL D) p 0 (D 0 4 - 1) 2) k 0 (D 0 3 - 1) 2) w 0 (49) 3 = 2 ∧ e = 2 ∨ ck (ck (ck (tL D) p 0 (D 0 4 - 1) 2) k 0 (D 0 3 - 1) 2) w 0 (49) 3 = 3 ∧ e = 1) → hn h ≤ n' → X e (hup h n')) : RUN GQ (d + 8) m_X6_handler [pA 64, pI p, pI k, pI w] h Q X := by
  obtain ⟨w1, w2, w3, wN, ws1, wI⟩ := id W
  have kL := tL_or D
  have M := T.M
  have L := T.L
  have k1 := ck_or (tL D) p 0 (D 0 4 - 1) 2
  have k2 := ck_or (ck (tL D) p 0 (D 0 4 - 1) 2) k 0 (D 0 3 - 1) 2
  have k3 := ck_or (ck (ck (tL D) p 0 (D 0 4 - 1) 2) k 0 (D 0 3 - 1) 2) w 0 (49) 3
  have wt := fun h1 h2 => tmN (x := w) (y := 10) h1 h2
  have wd := fun (h : 0 ≤ w) => Int.tdiv_eq_ediv_of_nonneg (a := w) (b := 10) h
  rw [e_X6_handler]
  refine WP.of (RUN.mono GQ _) (cuts := []) (n := 400) (v_X6_handler_0 _ _ _ _ _ _ _ _ _ ?_)
  refine ⟨T.k, ?_⟩
  refine ⟨⟨by omega, by omega⟩, ?_⟩
  refine S_X6_needHall T (fun c1 => ?_) (fun c1 n1 l1 => ?_)
  · obtain ⟨I, V, sw⟩ := wI (by omega)
    obtain ⟨R, U⟩ := T.u (by omega)
    obtain ⟨v2, v3, v4, vh⟩ := id V
    have I1 := I.e1
    have I2 := I.e2
    refine ⟨T.k, ?_⟩
    refine ⟨⟨by omega, by omega⟩, ?_⟩
    refine S_X6_needProgram T U V (by omega) (fun c6 => ?_) (fun c6 n6 l6 => ?_)
    · refine ⟨T.k, ?_⟩
      refine ⟨⟨by omega, by omega⟩, ?_⟩
      refine S_X6_needKind T U V (by omega) (fun c11 => ?_) (fun c11 n11 l11 => ?_)
      · have hp6 : 0 ≤ p ∧ p < 6 := by omega
        have q0 := I.qn hp6
        have q13 := I.hq.1
        have s0 := I.sn hp6
        have h48 : 0 ≤ 8 * p + k ∧ 8 * p + k < 48 := by omega
        have hh := vh _ h48.1 h48.2
        have u1 := U.t hp6 (k := k) (by omega)
        have ua := fun i q => U.a hp6 (k := k) (i := i) (w := q) (by omega)
        refine ⟨ir (by omega) (by omega), fun c15 => ?_, fun c15 => ?_⟩
        · refine ⟨⟨by omega, by omega⟩, ?_⟩
          refine S_X6_needArgument (by omega) (fun c29 => ?_) (fun c29 n29 l29 => ?_)
          · exact absurd rfl c29
          · exact HX 1 _ (by omega) l29
        · refine ⟨ir (by omega) (by omega), ir (by omega) (by omega), fun c21 => ?_, fun c21 => ?_⟩
          · refine ⟨⟨by omega, by omega⟩, ?_⟩
            refine S_X6_needArgument (by omega) (fun c29 => ?_) (fun c29 n29 l29 => ?_)
            · refine ⟨T.k, ?_⟩
              try rw [T.r5]
              refine ⟨Bx.k L 0 (by decide) rfl, ?_⟩
              refine S_X5_ticksOf L (by omega) (by omega) (fun x38 e38 => ?_)
              subst e38
              rw [u1.1]
              refine ⟨ir (by omega) (by omega), fun c41 => ?_, fun c41 => ?_⟩
              · first
                | (exfalso; omega)
                | (refine H _ (by omega) ?_
                   unfold hdlv
                   (repeat' split) <;> first | rfl | (exfalso; omega) | (rw [show 4 * (8 * p + k) + Int.tdiv w 10 - 1 = 4 * (8 * p + k) + (Int.tdiv w 10 - 1) by omega]; done))
              · refine ⟨ir (by omega) (by omega), fun c47 => ?_, fun c47 => ?_⟩
                · refine ⟨T.k, ?_⟩
                  try rw [T.r5]
                  refine ⟨Bx.k L 0 (by decide) rfl, ?_⟩
                  refine S_X5_ticksOf L (by omega) (by omega) (fun x56 e56 => ?_)
                  subst e56
                  rw [u1.1]
                  first
                  | (exfalso; omega)
                  | (refine H _ (by omega) ?_
                     unfold hdlv
                     (repeat' split) <;> first | rfl | (exfalso; omega) | (rw [show 4 * (8 * p + k) + Int.tdiv w 10 - 1 = 4 * (8 * p + k) + (Int.tdiv w 10 - 1) by omega]; done))
                · refine ⟨ir (by omega) (by omega), ir (by omega) (by omega), fun c62 => ?_, fun c62 => ?_⟩
                  · refine ⟨T.k, ?_⟩
                    try rw [T.r5]
                    refine ⟨Bx.k L 0 (by decide) rfl, ?_⟩
                    refine S_X5_actsOf L (by omega) (by omega) (fun x71 e71 => ?_)
                    subst e71
                    rw [u1.2]
                    first
                    | (exfalso; omega)
                    | (refine H _ (by omega) ?_
                       unfold hdlv
                       (repeat' split) <;> first | rfl | (exfalso; omega) | (rw [show 4 * (8 * p + k) + Int.tdiv w 10 - 1 = 4 * (8 * p + k) + (Int.tdiv w 10 - 1) by omega]; done))
                  · have wt1 := wt (by omega) (by omega)
                    have wd1 := wd (by omega)
                    refine ⟨ir (by omega) (by omega), ir (by omega) (by omega), (by omega), ?_⟩
                    refine ⟨ir (by omega) (by omega), ir (by omega) (by omega), (by omega), ?_⟩
                    refine ⟨ir (by omega) (by omega), fun c91 => ?_, fun c91 => ?_⟩
                    · first
                      | (exfalso; omega)
                      | (refine H _ (by omega) ?_
                         unfold hdlv
                         (repeat' split) <;> first | rfl | (exfalso; omega) | (rw [show 4 * (8 * p + k) + Int.tdiv w 10 - 1 = 4 * (8 * p + k) + (Int.tdiv w 10 - 1) by omega]; done))
                    · refine ⟨T.k, ?_⟩
                      try rw [T.r5]
                      refine ⟨Bx.k L 0 (by decide) rfl, ?_⟩
                      refine S_X5_actsOf L (by omega) (by omega) (fun x102 e102 => ?_)
                      subst e102
                      rw [u1.2]
                      refine ⟨ir (by omega) (by omega), ir (by omega) (by omega), fun c105 => ?_, fun c105 => ?_⟩
                      · refine ⟨ir (by omega) (by omega), ir (by omega) (by omega), fun c111 => ?_, fun c111 => ?_⟩
                        · refine ⟨T.k, ?_⟩
                          try rw [T.r5]
                          refine ⟨Bx.k L 0 (by decide) rfl, ?_⟩
                          refine S_X5_actPart L (by omega) (by omega) (by omega) (by omega) (fun x126 e126 => ?_)
                          subst e126
                          rw [ua _ _ (by omega) (by omega)]
                          first
                          | (exfalso; omega)
                          | (refine H _ (by omega) ?_
                             unfold hdlv
                             (repeat' split) <;> first | rfl | (exfalso; omega) | (rw [show 4 * (8 * p + k) + Int.tdiv w 10 - 1 = 4 * (8 * p + k) + (Int.tdiv w 10 - 1) by omega]; done))
                        · first
                          | (exfalso; omega)
                          | (refine H _ (by omega) ?_
                             unfold hdlv
                             (repeat' split) <;> first | rfl | (exfalso; omega) | (rw [show 4 * (8 * p + k) + Int.tdiv w 10 - 1 = 4 * (8 * p + k) + (Int.tdiv w 10 - 1) by omega]; done))
                      · first
                        | (exfalso; omega)
                        | (refine H _ (by omega) ?_
                           unfold hdlv
                           (repeat' split) <;> first | rfl | (exfalso; omega) | (rw [show 4 * (8 * p + k) + Int.tdiv w 10 - 1 = 4 * (8 * p + k) + (Int.tdiv w 10 - 1) by omega]; done))
            · exact absurd c29 (by decide)
          · refine ⟨⟨by omega, by omega⟩, ?_⟩
            refine S_X6_needArgument (by omega) (fun c29 => ?_) (fun c29 n29 l29 => ?_)
            · exact absurd rfl c29
            · exact HX 1 _ (by omega) l29
      · exact HX 2 _ (by omega) l11
    · exact HX 2 _ (by omega) l6
  · exact HX 0 _ (by omega) l1
theorem S_X6_queue {d : Nat} {h : PH} {B A : Nat} {EP E D : Nat → Int → Int} {s : Int → Int} {N : Int} {Q : Int → PH → Prop} {X : Nat → PH → Prop} {p i w : Int} (T : FT h B A EP E D s) (W : WD D s N) (hvp : InR p) (hvi : InR i) (hvw : InR w) (H : ∀ x : Int, ck (ck (ck (tL D) p 0 (D 0 4 - 1) 2) i 0 (s (115 + p) - 1) 2) w 0 (4) 3 = 0 → x = qv s p (plc s p i) w → Q x h) (HX : ∀ (e n' : Nat), (ck (ck (ck (tL D) p 0 (D 0 4 - 1) 2) i 0 (s (115 + p) - 1) 2) w 0 (4) 3 = 1 ∧ e = 0 ∨ ck (ck (ck (tL D) p 0 (D 0 4 - 1) 2) i 0 (s (115 + p) - 1) 2) w 0 (4) 3 = 2 ∧ e = 2 ∨ ck (ck (ck (tL D) p 0 (D 0 4 - 1) 2) i 0 (s (115 + p) - 1) 2) w 0 (4) 3 = 3 ∧ e = 1) → hn h ≤ n' → X e (hup h n')) : RUN GQ (d + 8) m_X6_queue [pA 64, pI p, pI i, pI w] h Q X := by
  obtain ⟨w1, w2, w3, wN, ws1, wI⟩ := id W
  have kL := tL_or D
  have M := T.M
  have L := T.L
  have k1 := ck_or (tL D) p 0 (D 0 4 - 1) 2
  have k2 := ck_or (ck (tL D) p 0 (D 0 4 - 1) 2) i 0 (s (115 + p) - 1) 2
  have k3 := ck_or (ck (ck (tL D) p 0 (D 0 4 - 1) 2) i 0 (s (115 + p) - 1) 2) w 0 (4) 3
  rw [e_X6_queue]
  refine WP.of (RUN.mono GQ _) (cuts := []) (n := 400) (v_X6_queue_0 _ _ _ _ _ _ _ ?_)
  refine ⟨T.k, ?_⟩
  refine ⟨⟨by omega, by omega⟩, ?_⟩
  refine S_X6_needHall T (fun c1 => ?_) (fun c1 n1 l1 => ?_)
  · obtain ⟨I, V, sw⟩ := wI (by omega)
    obtain ⟨R, U⟩ := T.u (by omega)
    obtain ⟨v2, v3, v4, vh⟩ := id V
    have I1 := I.e1
    have I2 := I.e2
    refine ⟨T.k, ?_⟩
    refine ⟨⟨by omega, by omega⟩, ?_⟩
    refine S_X6_needProgram T U V (by omega) (fun c6 => ?_) (fun c6 n6 l6 => ?_)
    · have hp6 : 0 ≤ p ∧ p < 6 := by omega
      have q0 := I.qn hp6
      have q13 := I.hq.1
      have s0 := I.sn hp6
      refine ⟨ir (by omega) (by omega), fun c10 => ?_, fun c10 => ?_⟩
      · refine ⟨⟨by omega, by omega⟩, ?_⟩
        refine S_X6_needIndex (by omega) (fun c33 => ?_) (fun c33 n33 l33 => ?_)
        · exact absurd rfl c33
        · exact HX 2 _ (by omega) l33
      · refine ⟨T.k, ?_⟩
        try rw [T.r6]
        refine ⟨Bx.k M 0 (by decide) rfl, ?_⟩
        try rw [show hr h A 5 = A + 6 from Bx.r M 0 5 6 (by decide)]
        refine ⟨Bx.k M 6 (by decide) rfl, ?_⟩
        refine S_X1_sizeOf_qR M R I (by omega) (fun x22 e22 => ?_)
        subst e22
        refine ⟨ir (by omega) (by omega), ir (by omega) (by omega), fun c25 => ?_, fun c25 => ?_⟩
        · refine ⟨⟨by omega, by omega⟩, ?_⟩
          refine S_X6_needIndex (by omega) (fun c33 => ?_) (fun c33 n33 l33 => ?_)
          · refine ⟨ir (by omega) (by omega), fun c37 => ?_, fun c37 => ?_⟩
            · refine ⟨⟨by omega, by omega⟩, ?_⟩
              refine S_X6_needArgument (by omega) (fun c50 => ?_) (fun c50 n50 l50 => ?_)
              · exact absurd rfl c50
              · exact HX 1 _ (by omega) l50
            · refine ⟨ir (by omega) (by omega), ir (by omega) (by omega), fun c42 => ?_, fun c42 => ?_⟩
              · refine ⟨⟨by omega, by omega⟩, ?_⟩
                refine S_X6_needArgument (by omega) (fun c50 => ?_) (fun c50 n50 l50 => ?_)
                · refine ⟨T.k, ?_⟩
                  try rw [T.r6]
                  refine ⟨Bx.k M 0 (by decide) rfl, ?_⟩
                  try rw [show hr h A 5 = A + 6 from Bx.r M 0 5 6 (by decide)]
                  refine ⟨T.k, ?_⟩
                  try rw [T.r6]
                  refine ⟨Bx.k M 0 (by decide) rfl, ?_⟩
                  refine S_X0_placeInOrder M R I v3 (by omega) (by omega) (fun x67 e67 => ?_)
                  subst e67
                  have pl := plc_spec (s := s) (p := p) (x := i) ⟨by omega, by omega⟩
                  refine ⟨Bx.k M 6 (by decide) rfl, ?_⟩
                  refine S_X1_part_qR M R I (by omega) (by omega) (by omega) (fun x71 e71 => ?_)
                  subst e71
                  first
                  | (exfalso; omega)
                  | (refine H _ (by omega) ?_
                     first | rfl | assumption)
                · exact absurd c50 (by decide)
              · refine ⟨⟨by omega, by omega⟩, ?_⟩
                refine S_X6_needArgument (by omega) (fun c50 => ?_) (fun c50 n50 l50 => ?_)
                · exact absurd rfl c50
                · exact HX 1 _ (by omega) l50
          · exact absurd c33 (by decide)
        · refine ⟨⟨by omega, by omega⟩, ?_⟩
          refine S_X6_needIndex (by omega) (fun c33 => ?_) (fun c33 n33 l33 => ?_)
          · exact absurd rfl c33
          · exact HX 2 _ (by omega) l33
    · exact HX 2 _ (by omega) l6
  · exact HX 0 _ (by omega) l1
theorem S_X6_end {d : Nat} {h : PH} {B A : Nat} {EP E D : Nat → Int → Int} {s : Int → Int} {N : Int} {Q : Int → PH → Prop} {X : Nat → PH → Prop} {i w : Int} (T : FT h B A EP E D s) (W : WD D s N) (hvi : InR i) (hvw : InR w) (H : ∀ x : Int, ck (ck (tL D) i 0 (tld s - 1) 2) w 0 (4) 3 = 0 → x = rv s (Int.tmod (s 2 - 1 - i) 40) w → Q x h) (HX : ∀ (e n' : Nat), (ck (ck (tL D) i 0 (tld s - 1) 2) w 0 (4) 3 = 1 ∧ e = 0 ∨ ck (ck (tL D) i 0 (tld s - 1) 2) w 0 (4) 3 = 2 ∧ e = 2 ∨ ck (ck (tL D) i 0 (tld s - 1) 2) w 0 (4) 3 = 3 ∧ e = 1) → hn h ≤ n' → X e (hup h n')) : RUN GQ (d + 7) m_X6_end [pA 64, pI i, pI w] h Q X := by
  obtain ⟨w1, w2, w3, wN, ws1, wI⟩ := id W
  have kL := tL_or D
  have M := T.M
  have L := T.L
  have k1 := ck_or (tL D) i 0 (tld s - 1) 2
  have k2 := ck_or (ck (tL D) i 0 (tld s - 1) 2) w 0 (4) 3
  rw [e_X6_end]
  refine WP.of (RUN.mono GQ _) (cuts := []) (n := 400) (v_X6_end_0 _ _ _ _ _ _ ?_)
  refine ⟨T.k, ?_⟩
  refine ⟨⟨by omega, by omega⟩, ?_⟩
  refine S_X6_needHall T (fun c1 => ?_) (fun c1 n1 l1 => ?_)
  · obtain ⟨I, V, sw⟩ := wI (by omega)
    obtain ⟨R, U⟩ := T.u (by omega)
    obtain ⟨v2, v3, v4, vh⟩ := id V
    have I1 := I.e1
    have I2 := I.e2
    have tl : 0 ≤ tld s ∧ tld s ≤ s 2 ∧ tld s ≤ 40 := by unfold tld; split <;> omega
    refine ⟨ir (by omega) (by omega), fun c5 => ?_, fun c5 => ?_⟩
    · refine ⟨⟨by omega, by omega⟩, ?_⟩
      refine S_X6_needIndex (by omega) (fun c24 => ?_) (fun c24 n24 l24 => ?_)
      · exact absurd rfl c24
      · exact HX 2 _ (by omega) l24
    · refine ⟨T.k, ?_⟩
      try rw [T.r6]
      refine ⟨Bx.k M 0 (by decide) rfl, ?_⟩
      refine S_X0_told M R I (by omega) (fun x13 e13 => ?_)
      subst e13
      refine ⟨ir (by omega) (by omega), ir (by omega) (by omega), fun c16 => ?_, fun c16 => ?_⟩
      · refine ⟨⟨by omega, by omega⟩, ?_⟩
        refine S_X6_needIndex (by omega) (fun c24 => ?_) (fun c24 n24 l24 => ?_)
        · refine ⟨ir (by omega) (by omega), fun c28 => ?_, fun c28 => ?_⟩
          · refine ⟨⟨by omega, by omega⟩, ?_⟩
            refine S_X6_needArgument (by omega) (fun c41 => ?_) (fun c41 n41 l41 => ?_)
            · exact absurd rfl c41
            · exact HX 1 _ (by omega) l41
          · refine ⟨ir (by omega) (by omega), ir (by omega) (by omega), fun c33 => ?_, fun c33 => ?_⟩
            · refine ⟨⟨by omega, by omega⟩, ?_⟩
              refine S_X6_needArgument (by omega) (fun c41 => ?_) (fun c41 n41 l41 => ?_)
              · refine ⟨T.k, ?_⟩
                try rw [T.r6]
                refine ⟨Bx.k M 0 (by decide) rfl, ?_⟩
                refine S_X0_endPart M R I (by omega) (by omega) (by omega) (fun x50 e50 => ?_)
                subst e50
                first
                | (exfalso; omega)
                | (refine H _ (by omega) ?_
                   first | rfl | assumption)
              · exact absurd c41 (by decide)
            · refine ⟨⟨by omega, by omega⟩, ?_⟩
              refine S_X6_needArgument (by omega) (fun c41 => ?_) (fun c41 n41 l41 => ?_)
              · exact absurd rfl c41
              · exact HX 1 _ (by omega) l41
        · exact absurd c24 (by decide)
      · refine ⟨⟨by omega, by omega⟩, ?_⟩
        refine S_X6_needIndex (by omega) (fun c24 => ?_) (fun c24 n24 l24 => ?_)
        · exact absurd rfl c24
        · exact HX 2 _ (by omega) l24
  · exact HX 0 _ (by omega) l1
theorem S_X6_next {d : Nat} {h : PH} {B A : Nat} {EP E D : Nat → Int → Int} {s : Int → Int} {N : Int} {Q : Int → PH → Prop} {X : Nat → PH → Prop} {p : Int} (T : FT h B A EP E D s) (W : WD D s N) (hvp : InR p) (H : ∀ x : Int, ck (tL D) p 0 (D 0 4 - 1) 2 = 0 → x = nxv s p → Q x h) (HX : ∀ (e n' : Nat), (ck (tL D) p 0 (D 0 4 - 1) 2 = 1 ∧ e = 0 ∨ ck (tL D) p 0 (D 0 4 - 1) 2 = 2 ∧ e = 2) → hn h ≤ n' → X e (hup h n')) : RUN GQ (d + 8) m_X6_next [pA 64, pI p] h Q X := by
  obtain ⟨w1, w2, w3, wN, ws1, wI⟩ := id W
  have kL := tL_or D
  have M := T.M
  have L := T.L
  have k1 := ck_or (tL D) p 0 (D 0 4 - 1) 2
  rw [e_X6_next]
  refine WP.of (RUN.mono GQ _) (cuts := []) (n := 400) (v_X6_next_0 _ _ _ _ _ _ ?_)
  refine ⟨T.k, ?_⟩
  refine ⟨⟨by omega, by omega⟩, ?_⟩
  refine S_X6_needHall T (fun c1 => ?_) (fun c1 n1 l1 => ?_)
  · obtain ⟨I, V, sw⟩ := wI (by omega)
    obtain ⟨R, U⟩ := T.u (by omega)
    obtain ⟨v2, v3, v4, vh⟩ := id V
    have I1 := I.e1
    have I2 := I.e2
    refine ⟨T.k, ?_⟩
    refine ⟨⟨by omega, by omega⟩, ?_⟩
    refine S_X6_needProgram T U V (by omega) (fun c6 => ?_) (fun c6 n6 l6 => ?_)
    · have hp6 : 0 ≤ p ∧ p < 6 := by omega
      have q0 := I.qn hp6
      have q13 := I.hq.1
      have s0 := I.sn hp6
      have ny := nxt_rng (s := s) p
      refine ⟨T.k, ?_⟩
      try rw [T.r6]
      refine ⟨Bx.k M 0 (by decide) rfl, ?_⟩
      refine S_X0_firstUnmasked M R I v3 (by omega) (fun x14 e14 => ?_)
      subst e14
      refine ⟨ir (by omega) (by omega), ir (by omega) (by omega), fun c20 => ?_, fun c20 => ?_⟩
      · first
        | (exfalso; omega)
        | (refine H _ (by omega) ?_
           unfold nxv
           split <;> first | rfl | assumption | (exfalso; omega))
      · refine ⟨T.k, ?_⟩
        try rw [T.r6]
        refine ⟨Bx.k M 0 (by decide) rfl, ?_⟩
        try rw [show hr h A 5 = A + 6 from Bx.r M 0 5 6 (by decide)]
        refine ⟨Bx.k M 6 (by decide) rfl, ?_⟩
        refine S_X1_part_qR M R I (by omega) (by omega) (by omega) (fun x37 e37 => ?_)
        subst e37
        first
        | (exfalso; omega)
        | (refine H _ (by omega) ?_
           unfold nxv
           split <;> first | rfl | assumption | (exfalso; omega))
    · exact HX 2 _ (by omega) l6
  · exact HX 0 _ (by omega) l1
