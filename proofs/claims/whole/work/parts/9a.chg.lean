/-! the model changes (written by wip/whole/tools/eng.py) -/
section VCS
variable {call : PC} {mc ms fr : Nat} {Q : Int → PH → Prop} {X : Nat → PH → Prop} {K : PK}
set_option maxRecDepth 100000 in
theorem v_X7_tick_0 (a0 : Nat) (i1 : Int) (z2 : Option PV) (h : PH) (c s : Nat) (H : hk h a0 = 8 ∧ call m_X7_notLoaded [pA a0] h (fun x1 h1 =>
 InR x1 ∧ (x1 = 0 →
 call m_X7_in [pI i1, pI 1, pI 200] h1 (fun x2 h2 =>
 InR x2 ∧ (x2 = 0 →
 hk h2 a0 = 8 ∧ call m_X7_refuse [pA a0, pI 1, pI 2] h2 (fun x3 h3 =>
 InR x3 ∧ (x3 = 0 →
 hk h3 a0 = 8 ∧ call m_X7_keepsAll [pA a0] h3 (fun _ h4 =>
 hk h4 a0 = 8 ∧ (hk h4 (hr h4 a0 11) = 20 ∨ hk h4 (hr h4 a0 11) = 26) ∧ (0 ≤ (2 : Int) ∧ (2 : Int) < (hl h4 (hr h4 a0 11) : Int)) ∧ hk h4 a0 = 8 ∧ call m_X7_goesTicks [pA a0, pI i1] h4 (fun _ h5 =>
 hk h5 a0 = 8 ∧ (hk h5 (hr h5 a0 11) = 20 ∨ hk h5 (hr h5 a0 11) = 26) ∧ (0 ≤ (2 : Int) ∧ (2 : Int) < (hl h5 (hr h5 a0 11) : Int)) ∧ Q ((hi h5 (hr h5 a0 11) (Int.toNat (2 : Int))) - (hi h4 (hr h4 a0 11) (Int.toNat (2 : Int)))) h5) X) X) ∧
(x3 ≠ 0 →
 Q 0 h3)) X) ∧
(x2 ≠ 0 →
 hk h2 a0 = 8 ∧ (hk h2 (hr h2 a0 11) = 20 ∨ hk h2 (hr h2 a0 11) = 26) ∧ (0 ≤ (0 : Int) ∧ (0 : Int) < (hl h2 (hr h2 a0 11) : Int)) ∧ InR ((hi h2 (hr h2 a0 11) (Int.toNat (0 : Int))) + i1) ∧ InR 9999 ∧ (9999 < ((hi h2 (hr h2 a0 11) (Int.toNat (0 : Int))) + i1) →
 hk h2 a0 = 8 ∧ call m_X7_refuse [pA a0, pI 1, pI 2] h2 (fun x6 h6 =>
 InR x6 ∧ (x6 = 0 →
 hk h6 a0 = 8 ∧ call m_X7_keepsAll [pA a0] h6 (fun _ h7 =>
 hk h7 a0 = 8 ∧ (hk h7 (hr h7 a0 11) = 20 ∨ hk h7 (hr h7 a0 11) = 26) ∧ (0 ≤ (2 : Int) ∧ (2 : Int) < (hl h7 (hr h7 a0 11) : Int)) ∧ hk h7 a0 = 8 ∧ call m_X7_goesTicks [pA a0, pI i1] h7 (fun _ h8 =>
 hk h8 a0 = 8 ∧ (hk h8 (hr h8 a0 11) = 20 ∨ hk h8 (hr h8 a0 11) = 26) ∧ (0 ≤ (2 : Int) ∧ (2 : Int) < (hl h8 (hr h8 a0 11) : Int)) ∧ Q ((hi h8 (hr h8 a0 11) (Int.toNat (2 : Int))) - (hi h7 (hr h7 a0 11) (Int.toNat (2 : Int)))) h8) X) X) ∧
(x6 ≠ 0 →
 Q 0 h6)) X) ∧
(((hi h2 (hr h2 a0 11) (Int.toNat (0 : Int))) + i1) ≤ 9999 →
 hk h2 a0 = 8 ∧ call m_X7_refuse [pA a0, pI 0, pI 2] h2 (fun x9 h9 =>
 InR x9 ∧ (x9 = 0 →
 hk h9 a0 = 8 ∧ call m_X7_keepsAll [pA a0] h9 (fun _ h10 =>
 hk h10 a0 = 8 ∧ (hk h10 (hr h10 a0 11) = 20 ∨ hk h10 (hr h10 a0 11) = 26) ∧ (0 ≤ (2 : Int) ∧ (2 : Int) < (hl h10 (hr h10 a0 11) : Int)) ∧ hk h10 a0 = 8 ∧ call m_X7_goesTicks [pA a0, pI i1] h10 (fun _ h11 =>
 hk h11 a0 = 8 ∧ (hk h11 (hr h11 a0 11) = 20 ∨ hk h11 (hr h11 a0 11) = 26) ∧ (0 ≤ (2 : Int) ∧ (2 : Int) < (hl h11 (hr h11 a0 11) : Int)) ∧ Q ((hi h11 (hr h11 a0 11) (Int.toNat (2 : Int))) - (hi h10 (hr h10 a0 11) (Int.toNat (2 : Int)))) h11) X) X) ∧
(x9 ≠ 0 →
 Q 0 h9)) X))) X) ∧
(x1 ≠ 0 →
 Q 0 h1)) X) : wpc k_X7_tick [] call mc ms fr Q X [] K 400 (pto 0 k_X7_tick) [some (pA a0), some (pI i1), z2] [] h c s :=
  H
set_option maxRecDepth 100000 in
theorem v_X7_send_0 (a0 : Nat) (i1 : Int) (i2 : Int) (i3 : Int) (h : PH) (c s : Nat) (H : hk h a0 = 8 ∧ call m_X7_noPair [pA a0, pI i1, pI i2] h (fun x1 h1 =>
 InR x1 ∧ (x1 = 0 →
 call m_X7_in [pI i3, pI 0, pI 999] h1 (fun x2 h2 =>
 InR x2 ∧ (x2 = 0 →
 hk h2 a0 = 8 ∧ call m_X7_refuse [pA a0, pI 1, pI 3] h2 (fun x3 h3 =>
 InR x3 ∧ (x3 = 0 →
 hk h3 a0 = 8 ∧ call m_X7_keepsAll [pA a0] h3 (fun _ h4 =>
 hk h4 a0 = 8 ∧ call m_X7_sends [pA a0, pI i1, pI i2, pI i3, pI ((-1))] h4 (fun _ h5 =>
 hk h5 a0 = 8 ∧ (hk h5 (hr h5 a0 11) = 20 ∨ hk h5 (hr h5 a0 11) = 26) ∧ (0 ≤ (1 : Int) ∧ (1 : Int) < (hl h5 (hr h5 a0 11) : Int)) ∧ Q ((hi h5 (hr h5 a0 11) (Int.toNat (1 : Int))) - 1) h5) X) X) ∧
(x3 ≠ 0 →
 Q 0 h3)) X) ∧
(x2 ≠ 0 →
 hk h2 a0 = 8 ∧ call m_X7_refuse [pA a0, pI 0, pI 3] h2 (fun x6 h6 =>
 InR x6 ∧ (x6 = 0 →
 hk h6 a0 = 8 ∧ call m_X7_keepsAll [pA a0] h6 (fun _ h7 =>
 hk h7 a0 = 8 ∧ call m_X7_sends [pA a0, pI i1, pI i2, pI i3, pI ((-1))] h7 (fun _ h8 =>
 hk h8 a0 = 8 ∧ (hk h8 (hr h8 a0 11) = 20 ∨ hk h8 (hr h8 a0 11) = 26) ∧ (0 ≤ (1 : Int) ∧ (1 : Int) < (hl h8 (hr h8 a0 11) : Int)) ∧ Q ((hi h8 (hr h8 a0 11) (Int.toNat (1 : Int))) - 1) h8) X) X) ∧
(x6 ≠ 0 →
 Q 0 h6)) X)) X) ∧
(x1 ≠ 0 →
 Q 0 h1)) X) : wpc k_X7_send [] call mc ms fr Q X [] K 400 (pto 0 k_X7_send) [some (pA a0), some (pI i1), some (pI i2), some (pI i3)] [] h c s :=
  H
set_option maxRecDepth 100000 in
theorem v_X7_mask_0 (a0 : Nat) (i1 : Int) (i2 : Int) (i3 : Int) (z4 : Option PV) (h : PH) (c s : Nat) (H : hk h a0 = 8 ∧ call m_X7_noPair [pA a0, pI i1, pI i2] h (fun x1 h1 =>
 InR x1 ∧ (x1 = 0 →
 hk h1 a0 = 8 ∧ call m_X7_keepsAll [pA a0] h1 (fun _ h2 =>
 hk h2 a0 = 8 ∧ call m_X7_isMasked [pA a0, pI i1, pI i2] h2 (fun x3 h3 =>
 hk h3 a0 = 8 ∧ hk h3 a0 = 8 ∧ (hk h3 (hr h3 a0 11) = 20 ∨ hk h3 (hr h3 a0 11) = 26) ∧ (0 ≤ (85 + i1) ∧ (85 + i1) < (hl h3 (hr h3 a0 11) : Int)) ∧ call m_X7_flag [pI i3] h3 (fun x4 h4 =>
 hk h4 (hr h3 a0 11) = 20 ∧ (0 ≤ (85 + i1) ∧ (85 + i1) < (hl h4 (hr h3 a0 11) : Int)) ∧ ∀ h5, h5 = hsi h4 (hr h3 a0 11) (Int.toNat ((85 + i1))) (bor (band (hi h3 (hr h3 a0 11) (Int.toNat ((85 + i1)))) (bxor (bshl 1 i2) ((-1)))) (bshl x4 i2)) →
 (x3 = 0 ∨ x3 = 1) ∧ Q x3 h5) X) X) X) ∧
(x1 ≠ 0 →
 ((0 : Int) = 0 ∨ (0 : Int) = 1) ∧ Q 0 h1)) X) : wpc k_X7_mask [] call mc ms fr Q X [] K 400 (pto 0 k_X7_mask) [some (pA a0), some (pI i1), some (pI i2), some (pI i3), z4] [] h c s :=
  H
set_option maxRecDepth 100000 in
theorem v_X7_clear_0 (a0 : Nat) (i1 : Int) (h : PH) (c s : Nat) (H : hk h a0 = 8 ∧ call m_X7_noProgram [pA a0, pI i1] h (fun x1 h1 =>
 InR x1 ∧ (x1 = 0 →
 hk h1 a0 = 8 ∧ call m_X7_keepsAll [pA a0] h1 (fun _ h2 =>
 hk h2 a0 = 8 ∧ call m_X7_drops [pA a0, pI i1, pI ((-1))] h2 (fun x3 h3 =>
 Q x3 h3) X) X) ∧
(x1 ≠ 0 →
 Q 0 h1)) X) : wpc k_X7_clear [] call mc ms fr Q X [] K 400 (pto 0 k_X7_clear) [some (pA a0), some (pI i1)] [] h c s :=
  H
set_option maxRecDepth 100000 in
theorem v_X7_sets_0 (a0 : Nat) (i1 : Int) (i2 : Int) (z3 : Option PV) (h : PH) (c s : Nat) (H : hk h a0 = 8 ∧ call m_X7_keepsAll [pA a0] h (fun _ h1 =>
 hk h1 a0 = 8 ∧ (hk h1 (hr h1 a0 11) = 20 ∨ hk h1 (hr h1 a0 11) = 26) ∧ (0 ≤ i1 ∧ i1 < (hl h1 (hr h1 a0 11) : Int)) ∧ hk h1 a0 = 8 ∧ hk h1 (hr h1 a0 11) = 20 ∧ (0 ≤ i1 ∧ i1 < (hl h1 (hr h1 a0 11) : Int)) ∧ ∀ h2, h2 = hsi h1 (hr h1 a0 11) (Int.toNat i1) i2 →
 Q (hi h1 (hr h1 a0 11) (Int.toNat i1)) h2) X) : wpc k_X7_sets [] call mc ms fr Q X [] K 400 (pto 0 k_X7_sets) [some (pA a0), some (pI i1), some (pI i2), z3] [] h c s :=
  H
set_option maxRecDepth 100000 in
theorem v_X7_setKind_0 (a0 : Nat) (i1 : Int) (i2 : Int) (i3 : Int) (z4 : Option PV) (h : PH) (c s : Nat) (H : hk h a0 = 8 ∧ call m_X7_noKind [pA a0, pI i1] h (fun x1 h1 =>
 InR x1 ∧ (x1 = 0 →
 call m_X7_in [pI i2, pI 0, pI 2] h1 (fun x2 h2 =>
 InR x2 ∧ (x2 = 0 →
 hk h2 a0 = 8 ∧ call m_X7_refuse [pA a0, pI 1, pI 3] h2 (fun x3 h3 =>
 InR x3 ∧ (x3 = 0 →
 InR i2 ∧ (i2 = 0 →
 call m_X7_in [pI i3, pI 1, pI 99] h3 (fun x4 h4 =>
 InR x4 ∧ (x4 = 0 →
 hk h4 a0 = 8 ∧ call m_X7_refuse [pA a0, pI 1, pI 3] h4 (fun x5 h5 =>
 InR x5 ∧ (x5 = 0 →
 hk h5 a0 = 8 ∧ call m_X7_sets [pA a0, pI ((13 + (3 * i1)) + i2), pI i3] h5 (fun x6 h6 =>
 Q x6 h6) X) ∧
(x5 ≠ 0 →
 Q 0 h5)) X) ∧
(x4 ≠ 0 →
 hk h4 a0 = 8 ∧ call m_X7_refuse [pA a0, pI 0, pI 3] h4 (fun x7 h7 =>
 InR x7 ∧ (x7 = 0 →
 hk h7 a0 = 8 ∧ call m_X7_sets [pA a0, pI ((13 + (3 * i1)) + i2), pI i3] h7 (fun x8 h8 =>
 Q x8 h8) X) ∧
(x7 ≠ 0 →
 Q 0 h7)) X)) X) ∧
(i2 ≠ 0 →
 InR i2 ∧ InR 1 ∧ (i2 = 1 →
 call m_X7_in [pI i3, pI 0, pI 20] h3 (fun x9 h9 =>
 InR x9 ∧ (x9 = 0 →
 hk h9 a0 = 8 ∧ call m_X7_refuse [pA a0, pI 1, pI 3] h9 (fun x10 h10 =>
 InR x10 ∧ (x10 = 0 →
 hk h10 a0 = 8 ∧ call m_X7_sets [pA a0, pI ((13 + (3 * i1)) + i2), pI i3] h10 (fun x11 h11 =>
 Q x11 h11) X) ∧
(x10 ≠ 0 →
 Q 0 h10)) X) ∧
(x9 ≠ 0 →
 hk h9 a0 = 8 ∧ call m_X7_refuse [pA a0, pI 0, pI 3] h9 (fun x12 h12 =>
 InR x12 ∧ (x12 = 0 →
 hk h12 a0 = 8 ∧ call m_X7_sets [pA a0, pI ((13 + (3 * i1)) + i2), pI i3] h12 (fun x13 h13 =>
 Q x13 h13) X) ∧
(x12 ≠ 0 →
 Q 0 h12)) X)) X) ∧
(i2 ≠ 1 →
 call m_X7_in [pI i3, pI 1, pI 200] h3 (fun x14 h14 =>
 InR x14 ∧ (x14 = 0 →
 hk h14 a0 = 8 ∧ call m_X7_refuse [pA a0, pI 1, pI 3] h14 (fun x15 h15 =>
 InR x15 ∧ (x15 = 0 →
 hk h15 a0 = 8 ∧ call m_X7_sets [pA a0, pI ((13 + (3 * i1)) + i2), pI i3] h15 (fun x16 h16 =>
 Q x16 h16) X) ∧
(x15 ≠ 0 →
 Q 0 h15)) X) ∧
(x14 ≠ 0 →
 hk h14 a0 = 8 ∧ call m_X7_refuse [pA a0, pI 0, pI 3] h14 (fun x17 h17 =>
 InR x17 ∧ (x17 = 0 →
 hk h17 a0 = 8 ∧ call m_X7_sets [pA a0, pI ((13 + (3 * i1)) + i2), pI i3] h17 (fun x18 h18 =>
 Q x18 h18) X) ∧
(x17 ≠ 0 →
 Q 0 h17)) X)) X))) ∧
(x3 ≠ 0 →
 Q 0 h3)) X) ∧
(x2 ≠ 0 →
 hk h2 a0 = 8 ∧ call m_X7_refuse [pA a0, pI 0, pI 3] h2 (fun x19 h19 =>
 InR x19 ∧ (x19 = 0 →
 InR i2 ∧ (i2 = 0 →
 call m_X7_in [pI i3, pI 1, pI 99] h19 (fun x20 h20 =>
 InR x20 ∧ (x20 = 0 →
 hk h20 a0 = 8 ∧ call m_X7_refuse [pA a0, pI 1, pI 3] h20 (fun x21 h21 =>
 InR x21 ∧ (x21 = 0 →
 hk h21 a0 = 8 ∧ call m_X7_sets [pA a0, pI ((13 + (3 * i1)) + i2), pI i3] h21 (fun x22 h22 =>
 Q x22 h22) X) ∧
(x21 ≠ 0 →
 Q 0 h21)) X) ∧
(x20 ≠ 0 →
 hk h20 a0 = 8 ∧ call m_X7_refuse [pA a0, pI 0, pI 3] h20 (fun x23 h23 =>
 InR x23 ∧ (x23 = 0 →
 hk h23 a0 = 8 ∧ call m_X7_sets [pA a0, pI ((13 + (3 * i1)) + i2), pI i3] h23 (fun x24 h24 =>
 Q x24 h24) X) ∧
(x23 ≠ 0 →
 Q 0 h23)) X)) X) ∧
(i2 ≠ 0 →
 InR i2 ∧ InR 1 ∧ (i2 = 1 →
 call m_X7_in [pI i3, pI 0, pI 20] h19 (fun x25 h25 =>
 InR x25 ∧ (x25 = 0 →
 hk h25 a0 = 8 ∧ call m_X7_refuse [pA a0, pI 1, pI 3] h25 (fun x26 h26 =>
 InR x26 ∧ (x26 = 0 →
 hk h26 a0 = 8 ∧ call m_X7_sets [pA a0, pI ((13 + (3 * i1)) + i2), pI i3] h26 (fun x27 h27 =>
 Q x27 h27) X) ∧
(x26 ≠ 0 →
 Q 0 h26)) X) ∧
(x25 ≠ 0 →
 hk h25 a0 = 8 ∧ call m_X7_refuse [pA a0, pI 0, pI 3] h25 (fun x28 h28 =>
 InR x28 ∧ (x28 = 0 →
 hk h28 a0 = 8 ∧ call m_X7_sets [pA a0, pI ((13 + (3 * i1)) + i2), pI i3] h28 (fun x29 h29 =>
 Q x29 h29) X) ∧
(x28 ≠ 0 →
 Q 0 h28)) X)) X) ∧
(i2 ≠ 1 →
 call m_X7_in [pI i3, pI 1, pI 200] h19 (fun x30 h30 =>
 InR x30 ∧ (x30 = 0 →
 hk h30 a0 = 8 ∧ call m_X7_refuse [pA a0, pI 1, pI 3] h30 (fun x31 h31 =>
 InR x31 ∧ (x31 = 0 →
 hk h31 a0 = 8 ∧ call m_X7_sets [pA a0, pI ((13 + (3 * i1)) + i2), pI i3] h31 (fun x32 h32 =>
 Q x32 h32) X) ∧
(x31 ≠ 0 →
 Q 0 h31)) X) ∧
(x30 ≠ 0 →
 hk h30 a0 = 8 ∧ call m_X7_refuse [pA a0, pI 0, pI 3] h30 (fun x33 h33 =>
 InR x33 ∧ (x33 = 0 →
 hk h33 a0 = 8 ∧ call m_X7_sets [pA a0, pI ((13 + (3 * i1)) + i2), pI i3] h33 (fun x34 h34 =>
 Q x34 h34) X) ∧
(x33 ≠ 0 →
 Q 0 h33)) X)) X))) ∧
(x19 ≠ 0 →
 Q 0 h19)) X)) X) ∧
(x1 ≠ 0 →
 Q 0 h1)) X) : wpc k_X7_setKind [] call mc ms fr Q X [] K 400 (pto 0 k_X7_setKind) [some (pA a0), some (pI i1), some (pI i2), some (pI i3), z4] [] h c s :=
  H
set_option maxRecDepth 100000 in
theorem v_X7_set_0 (a0 : Nat) (i1 : Int) (i2 : Int) (z3 : Option PV) (h : PH) (c s : Nat) (H : hk h a0 = 8 ∧ call m_X7_notLoaded [pA a0] h (fun x1 h1 =>
 InR x1 ∧ (x1 = 0 →
 call m_X7_in [pI i1, pI 0, pI 2] h1 (fun x2 h2 =>
 InR x2 ∧ (x2 = 0 →
 hk h2 a0 = 8 ∧ call m_X7_refuse [pA a0, pI 1, pI 2] h2 (fun x3 h3 =>
 InR x3 ∧ (x3 = 0 →
 InR i1 ∧ (i1 = 0 →
 call m_X7_in [pI i2, pI 1, pI 4] h3 (fun x4 h4 =>
 InR x4 ∧ (x4 = 0 →
 hk h4 a0 = 8 ∧ call m_X7_refuse [pA a0, pI 1, pI 2] h4 (fun x5 h5 =>
 InR x5 ∧ (x5 = 0 →
 hk h5 a0 = 8 ∧ call m_X7_sets [pA a0, pI (10 + i1), pI i2] h5 (fun x6 h6 =>
 Q x6 h6) X) ∧
(x5 ≠ 0 →
 Q 0 h5)) X) ∧
(x4 ≠ 0 →
 hk h4 a0 = 8 ∧ call m_X7_refuse [pA a0, pI 0, pI 2] h4 (fun x7 h7 =>
 InR x7 ∧ (x7 = 0 →
 hk h7 a0 = 8 ∧ call m_X7_sets [pA a0, pI (10 + i1), pI i2] h7 (fun x8 h8 =>
 Q x8 h8) X) ∧
(x7 ≠ 0 →
 Q 0 h7)) X)) X) ∧
(i1 ≠ 0 →
 InR i1 ∧ InR 1 ∧ (i1 = 1 →
 call m_X7_in [pI i2, pI 0, pI 50] h3 (fun x9 h9 =>
 InR x9 ∧ (x9 = 0 →
 hk h9 a0 = 8 ∧ call m_X7_refuse [pA a0, pI 1, pI 2] h9 (fun x10 h10 =>
 InR x10 ∧ (x10 = 0 →
 hk h10 a0 = 8 ∧ call m_X7_sets [pA a0, pI (10 + i1), pI i2] h10 (fun x11 h11 =>
 Q x11 h11) X) ∧
(x10 ≠ 0 →
 Q 0 h10)) X) ∧
(x9 ≠ 0 →
 hk h9 a0 = 8 ∧ call m_X7_refuse [pA a0, pI 0, pI 2] h9 (fun x12 h12 =>
 InR x12 ∧ (x12 = 0 →
 hk h12 a0 = 8 ∧ call m_X7_sets [pA a0, pI (10 + i1), pI i2] h12 (fun x13 h13 =>
 Q x13 h13) X) ∧
(x12 ≠ 0 →
 Q 0 h12)) X)) X) ∧
(i1 ≠ 1 →
 call m_X7_in [pI i2, pI 1, pI 50] h3 (fun x14 h14 =>
 InR x14 ∧ (x14 = 0 →
 hk h14 a0 = 8 ∧ call m_X7_refuse [pA a0, pI 1, pI 2] h14 (fun x15 h15 =>
 InR x15 ∧ (x15 = 0 →
 hk h15 a0 = 8 ∧ call m_X7_sets [pA a0, pI (10 + i1), pI i2] h15 (fun x16 h16 =>
 Q x16 h16) X) ∧
(x15 ≠ 0 →
 Q 0 h15)) X) ∧
(x14 ≠ 0 →
 hk h14 a0 = 8 ∧ call m_X7_refuse [pA a0, pI 0, pI 2] h14 (fun x17 h17 =>
 InR x17 ∧ (x17 = 0 →
 hk h17 a0 = 8 ∧ call m_X7_sets [pA a0, pI (10 + i1), pI i2] h17 (fun x18 h18 =>
 Q x18 h18) X) ∧
(x17 ≠ 0 →
 Q 0 h17)) X)) X))) ∧
(x3 ≠ 0 →
 Q 0 h3)) X) ∧
(x2 ≠ 0 →
 hk h2 a0 = 8 ∧ call m_X7_refuse [pA a0, pI 0, pI 2] h2 (fun x19 h19 =>
 InR x19 ∧ (x19 = 0 →
 InR i1 ∧ (i1 = 0 →
 call m_X7_in [pI i2, pI 1, pI 4] h19 (fun x20 h20 =>
 InR x20 ∧ (x20 = 0 →
 hk h20 a0 = 8 ∧ call m_X7_refuse [pA a0, pI 1, pI 2] h20 (fun x21 h21 =>
 InR x21 ∧ (x21 = 0 →
 hk h21 a0 = 8 ∧ call m_X7_sets [pA a0, pI (10 + i1), pI i2] h21 (fun x22 h22 =>
 Q x22 h22) X) ∧
(x21 ≠ 0 →
 Q 0 h21)) X) ∧
(x20 ≠ 0 →
 hk h20 a0 = 8 ∧ call m_X7_refuse [pA a0, pI 0, pI 2] h20 (fun x23 h23 =>
 InR x23 ∧ (x23 = 0 →
 hk h23 a0 = 8 ∧ call m_X7_sets [pA a0, pI (10 + i1), pI i2] h23 (fun x24 h24 =>
 Q x24 h24) X) ∧
(x23 ≠ 0 →
 Q 0 h23)) X)) X) ∧
(i1 ≠ 0 →
 InR i1 ∧ InR 1 ∧ (i1 = 1 →
 call m_X7_in [pI i2, pI 0, pI 50] h19 (fun x25 h25 =>
 InR x25 ∧ (x25 = 0 →
 hk h25 a0 = 8 ∧ call m_X7_refuse [pA a0, pI 1, pI 2] h25 (fun x26 h26 =>
 InR x26 ∧ (x26 = 0 →
 hk h26 a0 = 8 ∧ call m_X7_sets [pA a0, pI (10 + i1), pI i2] h26 (fun x27 h27 =>
 Q x27 h27) X) ∧
(x26 ≠ 0 →
 Q 0 h26)) X) ∧
(x25 ≠ 0 →
 hk h25 a0 = 8 ∧ call m_X7_refuse [pA a0, pI 0, pI 2] h25 (fun x28 h28 =>
 InR x28 ∧ (x28 = 0 →
 hk h28 a0 = 8 ∧ call m_X7_sets [pA a0, pI (10 + i1), pI i2] h28 (fun x29 h29 =>
 Q x29 h29) X) ∧
(x28 ≠ 0 →
 Q 0 h28)) X)) X) ∧
(i1 ≠ 1 →
 call m_X7_in [pI i2, pI 1, pI 50] h19 (fun x30 h30 =>
 InR x30 ∧ (x30 = 0 →
 hk h30 a0 = 8 ∧ call m_X7_refuse [pA a0, pI 1, pI 2] h30 (fun x31 h31 =>
 InR x31 ∧ (x31 = 0 →
 hk h31 a0 = 8 ∧ call m_X7_sets [pA a0, pI (10 + i1), pI i2] h31 (fun x32 h32 =>
 Q x32 h32) X) ∧
(x31 ≠ 0 →
 Q 0 h31)) X) ∧
(x30 ≠ 0 →
 hk h30 a0 = 8 ∧ call m_X7_refuse [pA a0, pI 0, pI 2] h30 (fun x33 h33 =>
 InR x33 ∧ (x33 = 0 →
 hk h33 a0 = 8 ∧ call m_X7_sets [pA a0, pI (10 + i1), pI i2] h33 (fun x34 h34 =>
 Q x34 h34) X) ∧
(x33 ≠ 0 →
 Q 0 h33)) X)) X))) ∧
(x19 ≠ 0 →
 Q 0 h19)) X)) X) ∧
(x1 ≠ 0 →
 Q 0 h1)) X) : wpc k_X7_set [] call mc ms fr Q X [] K 400 (pto 0 k_X7_set) [some (pA a0), some (pI i1), some (pI i2), z3] [] h c s :=
  H
set_option maxRecDepth 100000 in
theorem v_X7_undo_0 (a0 : Nat) (h : PH) (c s : Nat) (H : hk h a0 = 8 ∧ ∀ h1, h1 = hsi h a0 0 0 →
 hk h1 a0 = 8 ∧ InR (hi h1 a0 14) ∧ ((hi h1 a0 14) = 0 →
 hk h1 a0 = 8 ∧ call m_X7_refuse [pA a0, pI 1, pI 1] h1 (fun x2 h2 =>
 InR x2 ∧ (x2 = 0 →
 hk h2 a0 = 8 ∧ hk h2 a0 = 8 ∧ ∀ h3, h3 = hsi h2 a0 14 ((hi h2 a0 14) - 1) →
 hk h3 a0 = 8 ∧ hk h3 a0 = 8 ∧ call m_X7_fetches [pA a0, pI (0 + (hi h3 a0 14))] h3 (fun _ h4 =>
 hk h4 a0 = 8 ∧ Q (hi h4 a0 14) h4) X) ∧
(x2 ≠ 0 →
 Q 0 h2)) X) ∧
((hi h1 a0 14) ≠ 0 →
 hk h1 a0 = 8 ∧ call m_X7_refuse [pA a0, pI 0, pI 1] h1 (fun x5 h5 =>
 InR x5 ∧ (x5 = 0 →
 hk h5 a0 = 8 ∧ hk h5 a0 = 8 ∧ ∀ h6, h6 = hsi h5 a0 14 ((hi h5 a0 14) - 1) →
 hk h6 a0 = 8 ∧ hk h6 a0 = 8 ∧ call m_X7_fetches [pA a0, pI (0 + (hi h6 a0 14))] h6 (fun _ h7 =>
 hk h7 a0 = 8 ∧ Q (hi h7 a0 14) h7) X) ∧
(x5 ≠ 0 →
 Q 0 h5)) X)) : wpc k_X7_undo [] call mc ms fr Q X [] K 400 (pto 0 k_X7_undo) [some (pA a0)] [] h c s :=
  H
end VCS
theorem S_X7_tick {d b : Nat} {h0 h : PH} {D : Nat → Int → Int} {s : Int → Int} {t : Int} {Q : Int → PH → Prop} {X : Nat → PH → Prop} {N : Int} {n : Int} (M : Mt b h0 h D s t) (W : WD D s N) (hvn : InR n) (hc : 0 ≤ D 0 14 ∧ D 0 14 ≤ 8) (H : ∀ (x : Int) h' D' s', (tTk D s n = 0 → x = e_tks D n.toNat s 2 - s 2 ∧ D' = kpA D s ∧ s' = e_tks D n.toNat s) → (tTk D s n ≠ 0 → D' = D ∧ s' = s) → Mt b h0 h' D' s' (tTk D s n) → Q x h') : RUN GQ (d + 10) m_X7_tick [pA b, pI n] h Q X := by
  obtain ⟨w1, w2, w3, wN, ws1, wI⟩ := id W
  have kL := tL_or D
  have k1 := tTk_or D s n
  have e0 : D 0 1 ≠ 0 → 0 ≤ s 0 ∧ s 0 ≤ N := fun h => (wI h).1.e0
  rw [e_X7_tick]
  refine WP.of (RUN.mono GQ _) (cuts := []) (n := 400) (v_X7_tick_0 _ _ _ _ _ _ ?_)
  refine ⟨M.k0, ?_⟩
  refine S_X7_notLoaded M W (fun x1 h1 e1 M1 => ?_)
  refine ⟨ir (by omega) (by omega), fun c4 => ?_, fun c4 => ?_⟩
  · refine S_X7_inB (by omega) (by omega) (by omega) (fun x13 e13 => ?_)
    refine ⟨ir (by omega) (by omega), fun c16 => ?_, fun c16 => ?_⟩
    · refine ⟨M1.k0, ?_⟩
      refine S_X7_refuse M1 (by omega) (by omega) (by omega) (fun x39 h39 t39 e39 M39 => ?_)
      refine ⟨ir (by omega) (by omega), fun c42 => ?_, fun c42 => ?_⟩
      · obtain ⟨I, V, sw⟩ := wI (by omega)
        refine ⟨M39.k0, ?_⟩
        refine S_X7_keepsAll M39 (by omega) (fun x48 h48 e48 M48 => ?_)
        subst e48
        have q := DEq.kpA D s
        have I2 := HI.eqD q I
        have V2 := V.eq q
        refine ⟨M48.k0, ?_⟩
        try rw [M48.r11]
        refine M48.ld6 (by omega) (by omega) (fun er => ?_)
        try rw [er]
        clear er
        refine ⟨M48.k0, ?_⟩
        refine S_X7_goesTicks_t M48 I2 V2 (by omega) (by omega) (fun x60 h60 e60 M60 => ?_)
        subst e60
        have N60 := Mt.cast (s' := e_tks D n.toNat s) M60 (tks_D q _ _).symm
        refine ⟨N60.k0, ?_⟩
        try rw [N60.r11]
        refine N60.ld6 (by omega) (by omega) (fun er => ?_)
        try rw [er]
        clear er
        first
        | exact H _ _ _ _ (fun hT => absurd hT (by omega)) (fun _ => ⟨rfl, rfl⟩) (N60.castT (by omega))
        | (refine H _ _ _ _ (fun _ => ⟨?_, rfl, rfl⟩) (fun hT => absurd (by omega) hT) (N60.castT (by omega))
           rfl)
      · first
        | exact H _ _ _ _ (fun hT => absurd hT (by omega)) (fun _ => ⟨rfl, rfl⟩) (M39.castT (by omega))
        | (refine H _ _ _ _ (fun _ => ⟨?_, rfl, rfl⟩) (fun hT => absurd (by omega) hT) (M39.castT (by omega))
           rfl)
    · refine ⟨M1.k0, ?_⟩
      try rw [M1.r11]
      refine M1.ld6 (by omega) (by omega) (fun er => ?_)
      try rw [er]
      clear er
      refine ⟨ir (by omega) (by omega), ir (by omega) (by omega), fun c30 => ?_, fun c30 => ?_⟩
      · refine ⟨M1.k0, ?_⟩
        refine S_X7_refuse M1 (by omega) (by omega) (by omega) (fun x39 h39 t39 e39 M39 => ?_)
        refine ⟨ir (by omega) (by omega), fun c42 => ?_, fun c42 => ?_⟩
        · obtain ⟨I, V, sw⟩ := wI (by omega)
          refine ⟨M39.k0, ?_⟩
          refine S_X7_keepsAll M39 (by omega) (fun x48 h48 e48 M48 => ?_)
          subst e48
          have q := DEq.kpA D s
          have I2 := HI.eqD q I
          have V2 := V.eq q
          refine ⟨M48.k0, ?_⟩
          try rw [M48.r11]
          refine M48.ld6 (by omega) (by omega) (fun er => ?_)
          try rw [er]
          clear er
          refine ⟨M48.k0, ?_⟩
          refine S_X7_goesTicks_t M48 I2 V2 (by omega) (by omega) (fun x60 h60 e60 M60 => ?_)
          subst e60
          have N60 := Mt.cast (s' := e_tks D n.toNat s) M60 (tks_D q _ _).symm
          refine ⟨N60.k0, ?_⟩
          try rw [N60.r11]
          refine N60.ld6 (by omega) (by omega) (fun er => ?_)
          try rw [er]
          clear er
          first
          | exact H _ _ _ _ (fun hT => absurd hT (by omega)) (fun _ => ⟨rfl, rfl⟩) (N60.castT (by omega))
          | (refine H _ _ _ _ (fun _ => ⟨?_, rfl, rfl⟩) (fun hT => absurd (by omega) hT) (N60.castT (by omega))
             rfl)
        · first
          | exact H _ _ _ _ (fun hT => absurd hT (by omega)) (fun _ => ⟨rfl, rfl⟩) (M39.castT (by omega))
          | (refine H _ _ _ _ (fun _ => ⟨?_, rfl, rfl⟩) (fun hT => absurd (by omega) hT) (M39.castT (by omega))
             rfl)
      · refine ⟨M1.k0, ?_⟩
        refine S_X7_refuse M1 (by omega) (by omega) (by omega) (fun x39 h39 t39 e39 M39 => ?_)
        refine ⟨ir (by omega) (by omega), fun c42 => ?_, fun c42 => ?_⟩
        · obtain ⟨I, V, sw⟩ := wI (by omega)
          refine ⟨M39.k0, ?_⟩
          refine S_X7_keepsAll M39 (by omega) (fun x48 h48 e48 M48 => ?_)
          subst e48
          have q := DEq.kpA D s
          have I2 := HI.eqD q I
          have V2 := V.eq q
          refine ⟨M48.k0, ?_⟩
          try rw [M48.r11]
          refine M48.ld6 (by omega) (by omega) (fun er => ?_)
          try rw [er]
          clear er
          refine ⟨M48.k0, ?_⟩
          refine S_X7_goesTicks_t M48 I2 V2 (by omega) (by omega) (fun x60 h60 e60 M60 => ?_)
          subst e60
          have N60 := Mt.cast (s' := e_tks D n.toNat s) M60 (tks_D q _ _).symm
          refine ⟨N60.k0, ?_⟩
          try rw [N60.r11]
          refine N60.ld6 (by omega) (by omega) (fun er => ?_)
          try rw [er]
          clear er
          first
          | exact H _ _ _ _ (fun hT => absurd hT (by omega)) (fun _ => ⟨rfl, rfl⟩) (N60.castT (by omega))
          | (refine H _ _ _ _ (fun _ => ⟨?_, rfl, rfl⟩) (fun hT => absurd (by omega) hT) (N60.castT (by omega))
             rfl)
        · first
          | exact H _ _ _ _ (fun hT => absurd hT (by omega)) (fun _ => ⟨rfl, rfl⟩) (M39.castT (by omega))
          | (refine H _ _ _ _ (fun _ => ⟨?_, rfl, rfl⟩) (fun hT => absurd (by omega) hT) (M39.castT (by omega))
             rfl)
  · first
    | exact H _ _ _ _ (fun hT => absurd hT (by omega)) (fun _ => ⟨rfl, rfl⟩) (M1.castT (by omega))
    | (refine H _ _ _ _ (fun _ => ⟨?_, rfl, rfl⟩) (fun hT => absurd (by omega) hT) (M1.castT (by omega))
       rfl)
theorem S_X7_send {d b : Nat} {h0 h : PH} {D : Nat → Int → Int} {s : Int → Int} {t : Int} {Q : Int → PH → Prop} {X : Nat → PH → Prop} {N : Int} {p k v : Int} (M : Mt b h0 h D s t) (W : WD D s N) (hvp : InR p) (hvk : InR k) (hvv : InR v) (hc : 0 ≤ D 0 14 ∧ D 0 14 ≤ 8) (H : ∀ (x : Int) h' D' s', (ck (ck (ck (tL D) p 0 (D 0 4 - 1) 2) k 0 (D 0 3 - 1) 2) v 0 (999) 3 = 0 → x = e_snd D s p k v (-1) 1 - 1 ∧ D' = kpA D s ∧ s' = e_snd D s p k v (-1)) → (ck (ck (ck (tL D) p 0 (D 0 4 - 1) 2) k 0 (D 0 3 - 1) 2) v 0 (999) 3 ≠ 0 → D' = D ∧ s' = s) → Mt b h0 h' D' s' (ck (ck (ck (tL D) p 0 (D 0 4 - 1) 2) k 0 (D 0 3 - 1) 2) v 0 (999) 3) → Q x h') : RUN GQ (d + 6) m_X7_send [pA b, pI p, pI k, pI v] h Q X := by
  obtain ⟨w1, w2, w3, wN, ws1, wI⟩ := id W
  have kL := tL_or D
  have k1 := ck_or (tL D) p 0 (D 0 4 - 1) 2
  have k2 := ck_or (ck (tL D) p 0 (D 0 4 - 1) 2) k 0 (D 0 3 - 1) 2
  have k3 := ck_or (ck (ck (tL D) p 0 (D 0 4 - 1) 2) k 0 (D 0 3 - 1) 2) v 0 (999) 3
  rw [e_X7_send]
  refine WP.of (RUN.mono GQ _) (cuts := []) (n := 400) (v_X7_send_0 _ _ _ _ _ _ _ ?_)
  refine ⟨M.k0, ?_⟩
  refine S_X7_noPair M W (by omega) (by omega) (fun x3 h3 e3 M3 => ?_)
  refine ⟨ir (by omega) (by omega), fun c6 => ?_, fun c6 => ?_⟩
  · refine S_X7_inB (by omega) (by omega) (by omega) (fun x15 e15 => ?_)
    refine ⟨ir (by omega) (by omega), fun c18 => ?_, fun c18 => ?_⟩
    · refine ⟨M3.k0, ?_⟩
      refine S_X7_refuse M3 (by omega) (by omega) (by omega) (fun x27 h27 t27 e27 M27 => ?_)
      refine ⟨ir (by omega) (by omega), fun c30 => ?_, fun c30 => ?_⟩
      · obtain ⟨I, V, sw⟩ := wI (by omega)
        refine ⟨M27.k0, ?_⟩
        refine S_X7_keepsAll M27 (by omega) (fun x36 h36 e36 M36 => ?_)
        subst e36
        have q := DEq.kpA D s
        have I2 := HI.eqD q I
        have V2 := V.eq q
        refine ⟨M36.k0, ?_⟩
        refine S_X7_sends_t M36 I2 V2 (by omega) (by rw [q.2.2.1]; omega) (by rw [q.2.1]; omega) (by omega) (by omega) (fun x44 h44 e44 M44 => ?_)
        subst e44
        have N44 := Mt.cast (s' := e_snd D s p k v (-1)) M44 (snd_D q _ _ _ _ _).symm
        refine ⟨N44.k0, ?_⟩
        try rw [N44.r11]
        refine N44.ld6 (by omega) (by omega) (fun er => ?_)
        try rw [er]
        clear er
        first
        | exact H _ _ _ _ (fun hT => absurd hT (by omega)) (fun _ => ⟨rfl, rfl⟩) (N44.castT (by omega))
        | (refine H _ _ _ _ (fun _ => ⟨?_, rfl, rfl⟩) (fun hT => absurd (by omega) hT) (N44.castT (by omega))
           rfl)
      · first
        | exact H _ _ _ _ (fun hT => absurd hT (by omega)) (fun _ => ⟨rfl, rfl⟩) (M27.castT (by omega))
        | (refine H _ _ _ _ (fun _ => ⟨?_, rfl, rfl⟩) (fun hT => absurd (by omega) hT) (M27.castT (by omega))
           rfl)
    · refine ⟨M3.k0, ?_⟩
      refine S_X7_refuse M3 (by omega) (by omega) (by omega) (fun x27 h27 t27 e27 M27 => ?_)
      refine ⟨ir (by omega) (by omega), fun c30 => ?_, fun c30 => ?_⟩
      · obtain ⟨I, V, sw⟩ := wI (by omega)
        refine ⟨M27.k0, ?_⟩
        refine S_X7_keepsAll M27 (by omega) (fun x36 h36 e36 M36 => ?_)
        subst e36
        have q := DEq.kpA D s
        have I2 := HI.eqD q I
        have V2 := V.eq q
        refine ⟨M36.k0, ?_⟩
        refine S_X7_sends_t M36 I2 V2 (by omega) (by rw [q.2.2.1]; omega) (by rw [q.2.1]; omega) (by omega) (by omega) (fun x44 h44 e44 M44 => ?_)
        subst e44
        have N44 := Mt.cast (s' := e_snd D s p k v (-1)) M44 (snd_D q _ _ _ _ _).symm
        refine ⟨N44.k0, ?_⟩
        try rw [N44.r11]
        refine N44.ld6 (by omega) (by omega) (fun er => ?_)
        try rw [er]
        clear er
        first
        | exact H _ _ _ _ (fun hT => absurd hT (by omega)) (fun _ => ⟨rfl, rfl⟩) (N44.castT (by omega))
        | (refine H _ _ _ _ (fun _ => ⟨?_, rfl, rfl⟩) (fun hT => absurd (by omega) hT) (N44.castT (by omega))
           rfl)
      · first
        | exact H _ _ _ _ (fun hT => absurd hT (by omega)) (fun _ => ⟨rfl, rfl⟩) (M27.castT (by omega))
        | (refine H _ _ _ _ (fun _ => ⟨?_, rfl, rfl⟩) (fun hT => absurd (by omega) hT) (M27.castT (by omega))
           rfl)
  · first
    | exact H _ _ _ _ (fun hT => absurd hT (by omega)) (fun _ => ⟨rfl, rfl⟩) (M3.castT (by omega))
    | (refine H _ _ _ _ (fun _ => ⟨?_, rfl, rfl⟩) (fun hT => absurd (by omega) hT) (M3.castT (by omega))
       rfl)
theorem S_X7_mask {d b : Nat} {h0 h : PH} {D : Nat → Int → Int} {s : Int → Int} {t : Int} {Q : Int → PH → Prop} {X : Nat → PH → Prop} {N : Int} {p k z : Int} (M : Mt b h0 h D s t) (W : WD D s N) (hvp : InR p) (hvk : InR k) (hvz : InR z) (hc : 0 ≤ D 0 14 ∧ D 0 14 ≤ 8) (hz : z = 0 ∨ z = 1) (H : ∀ (x : Int) h' D' s', (ck (ck (tL D) p 0 (D 0 4 - 1) 2) k 0 (D 0 3 - 1) 2 = 0 → x = msk s p k ∧ D' = kpA D s ∧ s' = (ups s (85 + p) (bor (band (s (85 + p)) (bxor (bshl 1 k) (-1))) (bshl z k)))) → (ck (ck (tL D) p 0 (D 0 4 - 1) 2) k 0 (D 0 3 - 1) 2 ≠ 0 → D' = D ∧ s' = s) → Mt b h0 h' D' s' (ck (ck (tL D) p 0 (D 0 4 - 1) 2) k 0 (D 0 3 - 1) 2) → Q x h') : RUN GQ (d + 5) m_X7_mask [pA b, pI p, pI k, pI z] h Q X := by
  obtain ⟨w1, w2, w3, wN, ws1, wI⟩ := id W
  have kL := tL_or D
  have k1 := ck_or (tL D) p 0 (D 0 4 - 1) 2
  have k2 := ck_or (ck (tL D) p 0 (D 0 4 - 1) 2) k 0 (D 0 3 - 1) 2
  rw [e_X7_mask]
  refine WP.of (RUN.mono GQ _) (cuts := []) (n := 400) (v_X7_mask_0 _ _ _ _ _ _ _ _ ?_)
  refine ⟨M.k0, ?_⟩
  refine S_X7_noPair M W (by omega) (by omega) (fun x3 h3 e3 M3 => ?_)
  refine ⟨ir (by omega) (by omega), fun c6 => ?_, fun c6 => ?_⟩
  · obtain ⟨I, V, sw⟩ := wI (by omega)
    have m01 := msk_01 (s := s) p k
    refine ⟨M3.k0, ?_⟩
    refine S_X7_keepsAll M3 (by omega) (fun x12 h12 e12 M12 => ?_)
    subst e12
    have q := DEq.kpA D s
    have I2 := HI.eqD q I
    have V2 := V.eq q
    refine ⟨M12.k0, ?_⟩
    refine S_X7_isMasked M12 (by omega) (fun x18 e18 => ?_)
    subst e18
    refine ⟨M12.k0, ?_⟩
    try rw [M12.r11]
    refine ⟨M12.k0, ?_⟩
    try rw [M12.r11]
    refine M12.ld6 (by omega) (by omega) (fun er => ?_)
    try rw [er]
    clear er
    refine S_X7_flag (by omega) (fun x47 e47 => ?_)
    subst e47
    refine M12.as6 (by omega) (by omega) (fun h53 M53 => ?_)
    refine ⟨(by omega), ?_⟩
    first
    | exact H _ _ _ _ (fun hT => absurd hT (by omega)) (fun _ => ⟨rfl, rfl⟩) (M53.castT (by omega))
    | (refine H _ _ _ _ (fun _ => ⟨?_, rfl, rfl⟩) (fun hT => absurd (by omega) hT) (M53.castT (by omega))
       rfl)
  · refine ⟨(by omega), ?_⟩
    first
    | exact H _ _ _ _ (fun hT => absurd hT (by omega)) (fun _ => ⟨rfl, rfl⟩) (M3.castT (by omega))
    | (refine H _ _ _ _ (fun _ => ⟨?_, rfl, rfl⟩) (fun hT => absurd (by omega) hT) (M3.castT (by omega))
       rfl)
theorem S_X7_clear {d b : Nat} {h0 h : PH} {D : Nat → Int → Int} {s : Int → Int} {t : Int} {Q : Int → PH → Prop} {X : Nat → PH → Prop} {N : Int} {p : Int} (M : Mt b h0 h D s t) (W : WD D s N) (hvp : InR p) (hc : 0 ≤ D 0 14 ∧ D 0 14 ≤ 8) (H : ∀ (x : Int) h' D' s', (ck (tL D) p 0 (D 0 4 - 1) 2 = 0 → x = s (115 + p) - e_drops s p (-1) (115 + p) ∧ D' = kpA D s ∧ s' = e_drops s p (-1)) → (ck (tL D) p 0 (D 0 4 - 1) 2 ≠ 0 → D' = D ∧ s' = s) → Mt b h0 h' D' s' (ck (tL D) p 0 (D 0 4 - 1) 2) → Q x h') : RUN GQ (d + 5) m_X7_clear [pA b, pI p] h Q X := by
  obtain ⟨w1, w2, w3, wN, ws1, wI⟩ := id W
  have kL := tL_or D
  have k1 := ck_or (tL D) p 0 (D 0 4 - 1) 2
  rw [e_X7_clear]
  refine WP.of (RUN.mono GQ _) (cuts := []) (n := 400) (v_X7_clear_0 _ _ _ _ _ ?_)
  refine ⟨M.k0, ?_⟩
  refine S_X7_noProgram M W (by omega) (fun x2 h2 e2 M2 => ?_)
  refine ⟨ir (by omega) (by omega), fun c5 => ?_, fun c5 => ?_⟩
  · obtain ⟨I, V, sw⟩ := wI (by omega)
    refine ⟨M2.k0, ?_⟩
    refine S_X7_keepsAll M2 (by omega) (fun x11 h11 e11 M11 => ?_)
    subst e11
    have q := DEq.kpA D s
    have I2 := HI.eqD q I
    have V2 := V.eq q
    refine ⟨M11.k0, ?_⟩
    refine S_X7_drops_t M11 I2 V2 (by omega) (by rw [q.2.2.1]; omega) (by omega) (fun x17 h17 e17 M17 => ?_)
    subst e17
    first
    | exact H _ _ _ _ (fun hT => absurd hT (by omega)) (fun _ => ⟨rfl, rfl⟩) (M17.castT (by omega))
    | (refine H _ _ _ _ (fun _ => ⟨?_, rfl, rfl⟩) (fun hT => absurd (by omega) hT) (M17.castT (by omega))
       rfl)
  · first
    | exact H _ _ _ _ (fun hT => absurd hT (by omega)) (fun _ => ⟨rfl, rfl⟩) (M2.castT (by omega))
    | (refine H _ _ _ _ (fun _ => ⟨?_, rfl, rfl⟩) (fun hT => absurd (by omega) hT) (M2.castT (by omega))
       rfl)
theorem S_X7_sets {d b : Nat} {h0 h : PH} {D : Nat → Int → Int} {s : Int → Int} {t : Int} {Q : Int → PH → Prop} {X : Nat → PH → Prop} {e v : Int} (M : Mt b h0 h D s t) (he : 0 ≤ e ∧ e < 861) (hc : 0 ≤ D 0 14 ∧ D 0 14 ≤ 8) (H : ∀ (x : Int) h', x = (s e) → Mt b h0 h' (kpA D s) ((ups s e v)) t → Q x h') : RUN GQ (d + 3) m_X7_sets [pA b, pI e, pI v] h Q X := by
  rw [e_X7_sets]
  refine WP.of (RUN.mono GQ _) (cuts := []) (n := 400) (v_X7_sets_0 _ _ _ _ _ _ _ ?_)
  refine ⟨M.k0, ?_⟩
  refine S_X7_keepsAll M (by omega) (fun x1 h1 e1 M1 => ?_)
  subst e1
  refine ⟨M1.k0, ?_⟩
  try rw [M1.r11]
  refine M1.ld6 (by omega) (by omega) (fun er => ?_)
  try rw [er]
  clear er
  refine ⟨M1.k0, ?_⟩
  try rw [M1.r11]
  refine M1.as6 (by omega) (by omega) (fun h17 M17 => ?_)
  refine H _ _ ?_ ?_
  · first | rfl | omega
  · exact M17
theorem S_X7_setKind {d b : Nat} {h0 h : PH} {D : Nat → Int → Int} {s : Int → Int} {t : Int} {Q : Int → PH → Prop} {X : Nat → PH → Prop} {N : Int} {k w v : Int} (M : Mt b h0 h D s t) (W : WD D s N) (hvk : InR k) (hvw : InR w) (hvv : InR v) (hc : 0 ≤ D 0 14 ∧ D 0 14 ≤ 8) (H : ∀ (x : Int) h' D' s', (ck (ck (ck (tL D) k 0 (D 0 3 - 1) 2) w 0 (2) 3) v (knl w) (knh w) 3 = 0 → x = kn s k w ∧ D' = kpA D s ∧ s' = (ups s (13 + 3 * k + w) v)) → (ck (ck (ck (tL D) k 0 (D 0 3 - 1) 2) w 0 (2) 3) v (knl w) (knh w) 3 ≠ 0 → D' = D ∧ s' = s) → Mt b h0 h' D' s' (ck (ck (ck (tL D) k 0 (D 0 3 - 1) 2) w 0 (2) 3) v (knl w) (knh w) 3) → Q x h') : RUN GQ (d + 4) m_X7_setKind [pA b, pI k, pI w, pI v] h Q X := by
  obtain ⟨w1, w2, w3, wN, ws1, wI⟩ := id W
  have kL := tL_or D
  have k1 := ck_or (tL D) k 0 (D 0 3 - 1) 2
  have k2 := ck_or (ck (tL D) k 0 (D 0 3 - 1) 2) w 0 (2) 3
  have k3 := ck_or (ck (ck (tL D) k 0 (D 0 3 - 1) 2) w 0 (2) 3) v (knl w) (knh w) 3
  have k4 := kn_or w
  rw [e_X7_setKind]
  refine WP.of (RUN.mono GQ _) (cuts := []) (n := 400) (v_X7_setKind_0 _ _ _ _ _ _ _ _ ?_)
  refine ⟨M.k0, ?_⟩
  refine S_X7_noKind M W (by omega) (fun x2 h2 e2 M2 => ?_)
  refine ⟨ir (by omega) (by omega), fun c5 => ?_, fun c5 => ?_⟩
  · refine S_X7_inB (by omega) (by omega) (by omega) (fun x12 e12 => ?_)
    refine ⟨ir (by omega) (by omega), fun c15 => ?_, fun c15 => ?_⟩
    · refine ⟨M2.k0, ?_⟩
      refine S_X7_refuse M2 (by omega) (by omega) (by omega) (fun x24 h24 t24 e24 M24 => ?_)
      refine ⟨ir (by omega) (by omega), fun c27 => ?_, fun c27 => ?_⟩
      · refine ⟨ir (by omega) (by omega), fun c33 => ?_, fun c33 => ?_⟩
        · refine S_X7_inB (by omega) (by omega) (by omega) (fun x40 e40 => ?_)
          refine ⟨ir (by omega) (by omega), fun c74 => ?_, fun c74 => ?_⟩
          · refine ⟨M24.k0, ?_⟩
            refine S_X7_refuse M24 (by omega) (by omega) (by omega) (fun x83 h83 t83 e83 M83 => ?_)
            refine ⟨ir (by omega) (by omega), fun c86 => ?_, fun c86 => ?_⟩
            · refine ⟨M83.k0, ?_⟩
              refine S_X7_sets M83 (by omega) (by omega) (fun x103 h103 e103 M103 => ?_)
              subst e103
              first
              | exact H _ _ _ _ (fun hT => absurd hT (by omega)) (fun _ => ⟨rfl, rfl⟩) (M103.castT (by omega))
              | (refine H _ _ _ _ (fun _ => ⟨?_, rfl, rfl⟩) (fun hT => absurd (by omega) hT) (M103.castT (by omega))
                 rfl)
            · first
              | exact H _ _ _ _ (fun hT => absurd hT (by omega)) (fun _ => ⟨rfl, rfl⟩) (M83.castT (by omega))
              | (refine H _ _ _ _ (fun _ => ⟨?_, rfl, rfl⟩) (fun hT => absurd (by omega) hT) (M83.castT (by omega))
                 rfl)
          · refine ⟨M24.k0, ?_⟩
            refine S_X7_refuse M24 (by omega) (by omega) (by omega) (fun x83 h83 t83 e83 M83 => ?_)
            refine ⟨ir (by omega) (by omega), fun c86 => ?_, fun c86 => ?_⟩
            · refine ⟨M83.k0, ?_⟩
              refine S_X7_sets M83 (by omega) (by omega) (fun x103 h103 e103 M103 => ?_)
              subst e103
              first
              | exact H _ _ _ _ (fun hT => absurd hT (by omega)) (fun _ => ⟨rfl, rfl⟩) (M103.castT (by omega))
              | (refine H _ _ _ _ (fun _ => ⟨?_, rfl, rfl⟩) (fun hT => absurd (by omega) hT) (M103.castT (by omega))
                 rfl)
            · first
              | exact H _ _ _ _ (fun hT => absurd hT (by omega)) (fun _ => ⟨rfl, rfl⟩) (M83.castT (by omega))
              | (refine H _ _ _ _ (fun _ => ⟨?_, rfl, rfl⟩) (fun hT => absurd (by omega) hT) (M83.castT (by omega))
                 rfl)
        · refine ⟨ir (by omega) (by omega), ir (by omega) (by omega), fun c48 => ?_, fun c48 => ?_⟩
          · refine S_X7_inB (by omega) (by omega) (by omega) (fun x55 e55 => ?_)
            refine ⟨ir (by omega) (by omega), fun c74 => ?_, fun c74 => ?_⟩
            · refine ⟨M24.k0, ?_⟩
              refine S_X7_refuse M24 (by omega) (by omega) (by omega) (fun x83 h83 t83 e83 M83 => ?_)
              refine ⟨ir (by omega) (by omega), fun c86 => ?_, fun c86 => ?_⟩
              · refine ⟨M83.k0, ?_⟩
                refine S_X7_sets M83 (by omega) (by omega) (fun x103 h103 e103 M103 => ?_)
                subst e103
                first
                | exact H _ _ _ _ (fun hT => absurd hT (by omega)) (fun _ => ⟨rfl, rfl⟩) (M103.castT (by omega))
                | (refine H _ _ _ _ (fun _ => ⟨?_, rfl, rfl⟩) (fun hT => absurd (by omega) hT) (M103.castT (by omega))
                   rfl)
              · first
                | exact H _ _ _ _ (fun hT => absurd hT (by omega)) (fun _ => ⟨rfl, rfl⟩) (M83.castT (by omega))
                | (refine H _ _ _ _ (fun _ => ⟨?_, rfl, rfl⟩) (fun hT => absurd (by omega) hT) (M83.castT (by omega))
                   rfl)
            · refine ⟨M24.k0, ?_⟩
              refine S_X7_refuse M24 (by omega) (by omega) (by omega) (fun x83 h83 t83 e83 M83 => ?_)
              refine ⟨ir (by omega) (by omega), fun c86 => ?_, fun c86 => ?_⟩
              · refine ⟨M83.k0, ?_⟩
                refine S_X7_sets M83 (by omega) (by omega) (fun x103 h103 e103 M103 => ?_)
                subst e103
                first
                | exact H _ _ _ _ (fun hT => absurd hT (by omega)) (fun _ => ⟨rfl, rfl⟩) (M103.castT (by omega))
                | (refine H _ _ _ _ (fun _ => ⟨?_, rfl, rfl⟩) (fun hT => absurd (by omega) hT) (M103.castT (by omega))
                   rfl)
              · first
                | exact H _ _ _ _ (fun hT => absurd hT (by omega)) (fun _ => ⟨rfl, rfl⟩) (M83.castT (by omega))
                | (refine H _ _ _ _ (fun _ => ⟨?_, rfl, rfl⟩) (fun hT => absurd (by omega) hT) (M83.castT (by omega))
                   rfl)
          · refine S_X7_inB (by omega) (by omega) (by omega) (fun x66 e66 => ?_)
            refine ⟨ir (by omega) (by omega), fun c74 => ?_, fun c74 => ?_⟩
            · refine ⟨M24.k0, ?_⟩
              refine S_X7_refuse M24 (by omega) (by omega) (by omega) (fun x83 h83 t83 e83 M83 => ?_)
              refine ⟨ir (by omega) (by omega), fun c86 => ?_, fun c86 => ?_⟩
              · refine ⟨M83.k0, ?_⟩
                refine S_X7_sets M83 (by omega) (by omega) (fun x103 h103 e103 M103 => ?_)
                subst e103
                first
                | exact H _ _ _ _ (fun hT => absurd hT (by omega)) (fun _ => ⟨rfl, rfl⟩) (M103.castT (by omega))
                | (refine H _ _ _ _ (fun _ => ⟨?_, rfl, rfl⟩) (fun hT => absurd (by omega) hT) (M103.castT (by omega))
                   rfl)
              · first
                | exact H _ _ _ _ (fun hT => absurd hT (by omega)) (fun _ => ⟨rfl, rfl⟩) (M83.castT (by omega))
                | (refine H _ _ _ _ (fun _ => ⟨?_, rfl, rfl⟩) (fun hT => absurd (by omega) hT) (M83.castT (by omega))
                   rfl)
            · refine ⟨M24.k0, ?_⟩
              refine S_X7_refuse M24 (by omega) (by omega) (by omega) (fun x83 h83 t83 e83 M83 => ?_)
              refine ⟨ir (by omega) (by omega), fun c86 => ?_, fun c86 => ?_⟩
              · refine ⟨M83.k0, ?_⟩
                refine S_X7_sets M83 (by omega) (by omega) (fun x103 h103 e103 M103 => ?_)
                subst e103
                first
                | exact H _ _ _ _ (fun hT => absurd hT (by omega)) (fun _ => ⟨rfl, rfl⟩) (M103.castT (by omega))
                | (refine H _ _ _ _ (fun _ => ⟨?_, rfl, rfl⟩) (fun hT => absurd (by omega) hT) (M103.castT (by omega))
                   rfl)
              · first
                | exact H _ _ _ _ (fun hT => absurd hT (by omega)) (fun _ => ⟨rfl, rfl⟩) (M83.castT (by omega))
                | (refine H _ _ _ _ (fun _ => ⟨?_, rfl, rfl⟩) (fun hT => absurd (by omega) hT) (M83.castT (by omega))
                   rfl)
      · first
        | exact H _ _ _ _ (fun hT => absurd hT (by omega)) (fun _ => ⟨rfl, rfl⟩) (M24.castT (by omega))
        | (refine H _ _ _ _ (fun _ => ⟨?_, rfl, rfl⟩) (fun hT => absurd (by omega) hT) (M24.castT (by omega))
           rfl)
    · refine ⟨M2.k0, ?_⟩
      refine S_X7_refuse M2 (by omega) (by omega) (by omega) (fun x24 h24 t24 e24 M24 => ?_)
      refine ⟨ir (by omega) (by omega), fun c27 => ?_, fun c27 => ?_⟩
      · refine ⟨ir (by omega) (by omega), fun c33 => ?_, fun c33 => ?_⟩
        · refine S_X7_inB (by omega) (by omega) (by omega) (fun x40 e40 => ?_)
          refine ⟨ir (by omega) (by omega), fun c74 => ?_, fun c74 => ?_⟩
          · refine ⟨M24.k0, ?_⟩
            refine S_X7_refuse M24 (by omega) (by omega) (by omega) (fun x83 h83 t83 e83 M83 => ?_)
            refine ⟨ir (by omega) (by omega), fun c86 => ?_, fun c86 => ?_⟩
            · refine ⟨M83.k0, ?_⟩
              refine S_X7_sets M83 (by omega) (by omega) (fun x103 h103 e103 M103 => ?_)
              subst e103
              first
              | exact H _ _ _ _ (fun hT => absurd hT (by omega)) (fun _ => ⟨rfl, rfl⟩) (M103.castT (by omega))
              | (refine H _ _ _ _ (fun _ => ⟨?_, rfl, rfl⟩) (fun hT => absurd (by omega) hT) (M103.castT (by omega))
                 rfl)
            · first
              | exact H _ _ _ _ (fun hT => absurd hT (by omega)) (fun _ => ⟨rfl, rfl⟩) (M83.castT (by omega))
              | (refine H _ _ _ _ (fun _ => ⟨?_, rfl, rfl⟩) (fun hT => absurd (by omega) hT) (M83.castT (by omega))
                 rfl)
          · refine ⟨M24.k0, ?_⟩
            refine S_X7_refuse M24 (by omega) (by omega) (by omega) (fun x83 h83 t83 e83 M83 => ?_)
            refine ⟨ir (by omega) (by omega), fun c86 => ?_, fun c86 => ?_⟩
            · refine ⟨M83.k0, ?_⟩
              refine S_X7_sets M83 (by omega) (by omega) (fun x103 h103 e103 M103 => ?_)
              subst e103
              first
              | exact H _ _ _ _ (fun hT => absurd hT (by omega)) (fun _ => ⟨rfl, rfl⟩) (M103.castT (by omega))
              | (refine H _ _ _ _ (fun _ => ⟨?_, rfl, rfl⟩) (fun hT => absurd (by omega) hT) (M103.castT (by omega))
                 rfl)
            · first
              | exact H _ _ _ _ (fun hT => absurd hT (by omega)) (fun _ => ⟨rfl, rfl⟩) (M83.castT (by omega))
              | (refine H _ _ _ _ (fun _ => ⟨?_, rfl, rfl⟩) (fun hT => absurd (by omega) hT) (M83.castT (by omega))
                 rfl)
        · refine ⟨ir (by omega) (by omega), ir (by omega) (by omega), fun c48 => ?_, fun c48 => ?_⟩
          · refine S_X7_inB (by omega) (by omega) (by omega) (fun x55 e55 => ?_)
            refine ⟨ir (by omega) (by omega), fun c74 => ?_, fun c74 => ?_⟩
            · refine ⟨M24.k0, ?_⟩
              refine S_X7_refuse M24 (by omega) (by omega) (by omega) (fun x83 h83 t83 e83 M83 => ?_)
              refine ⟨ir (by omega) (by omega), fun c86 => ?_, fun c86 => ?_⟩
              · refine ⟨M83.k0, ?_⟩
                refine S_X7_sets M83 (by omega) (by omega) (fun x103 h103 e103 M103 => ?_)
                subst e103
                first
                | exact H _ _ _ _ (fun hT => absurd hT (by omega)) (fun _ => ⟨rfl, rfl⟩) (M103.castT (by omega))
                | (refine H _ _ _ _ (fun _ => ⟨?_, rfl, rfl⟩) (fun hT => absurd (by omega) hT) (M103.castT (by omega))
                   rfl)
              · first
                | exact H _ _ _ _ (fun hT => absurd hT (by omega)) (fun _ => ⟨rfl, rfl⟩) (M83.castT (by omega))
                | (refine H _ _ _ _ (fun _ => ⟨?_, rfl, rfl⟩) (fun hT => absurd (by omega) hT) (M83.castT (by omega))
                   rfl)
            · refine ⟨M24.k0, ?_⟩
              refine S_X7_refuse M24 (by omega) (by omega) (by omega) (fun x83 h83 t83 e83 M83 => ?_)
              refine ⟨ir (by omega) (by omega), fun c86 => ?_, fun c86 => ?_⟩
              · refine ⟨M83.k0, ?_⟩
                refine S_X7_sets M83 (by omega) (by omega) (fun x103 h103 e103 M103 => ?_)
                subst e103
                first
                | exact H _ _ _ _ (fun hT => absurd hT (by omega)) (fun _ => ⟨rfl, rfl⟩) (M103.castT (by omega))
                | (refine H _ _ _ _ (fun _ => ⟨?_, rfl, rfl⟩) (fun hT => absurd (by omega) hT) (M103.castT (by omega))
                   rfl)
              · first
                | exact H _ _ _ _ (fun hT => absurd hT (by omega)) (fun _ => ⟨rfl, rfl⟩) (M83.castT (by omega))
                | (refine H _ _ _ _ (fun _ => ⟨?_, rfl, rfl⟩) (fun hT => absurd (by omega) hT) (M83.castT (by omega))
                   rfl)
          · refine S_X7_inB (by omega) (by omega) (by omega) (fun x66 e66 => ?_)
            refine ⟨ir (by omega) (by omega), fun c74 => ?_, fun c74 => ?_⟩
            · refine ⟨M24.k0, ?_⟩
              refine S_X7_refuse M24 (by omega) (by omega) (by omega) (fun x83 h83 t83 e83 M83 => ?_)
              refine ⟨ir (by omega) (by omega), fun c86 => ?_, fun c86 => ?_⟩
              · refine ⟨M83.k0, ?_⟩
                refine S_X7_sets M83 (by omega) (by omega) (fun x103 h103 e103 M103 => ?_)
                subst e103
                first
                | exact H _ _ _ _ (fun hT => absurd hT (by omega)) (fun _ => ⟨rfl, rfl⟩) (M103.castT (by omega))
                | (refine H _ _ _ _ (fun _ => ⟨?_, rfl, rfl⟩) (fun hT => absurd (by omega) hT) (M103.castT (by omega))
                   rfl)
              · first
                | exact H _ _ _ _ (fun hT => absurd hT (by omega)) (fun _ => ⟨rfl, rfl⟩) (M83.castT (by omega))
                | (refine H _ _ _ _ (fun _ => ⟨?_, rfl, rfl⟩) (fun hT => absurd (by omega) hT) (M83.castT (by omega))
                   rfl)
            · refine ⟨M24.k0, ?_⟩
              refine S_X7_refuse M24 (by omega) (by omega) (by omega) (fun x83 h83 t83 e83 M83 => ?_)
              refine ⟨ir (by omega) (by omega), fun c86 => ?_, fun c86 => ?_⟩
              · refine ⟨M83.k0, ?_⟩
                refine S_X7_sets M83 (by omega) (by omega) (fun x103 h103 e103 M103 => ?_)
                subst e103
                first
                | exact H _ _ _ _ (fun hT => absurd hT (by omega)) (fun _ => ⟨rfl, rfl⟩) (M103.castT (by omega))
                | (refine H _ _ _ _ (fun _ => ⟨?_, rfl, rfl⟩) (fun hT => absurd (by omega) hT) (M103.castT (by omega))
                   rfl)
              · first
                | exact H _ _ _ _ (fun hT => absurd hT (by omega)) (fun _ => ⟨rfl, rfl⟩) (M83.castT (by omega))
                | (refine H _ _ _ _ (fun _ => ⟨?_, rfl, rfl⟩) (fun hT => absurd (by omega) hT) (M83.castT (by omega))
                   rfl)
      · first
        | exact H _ _ _ _ (fun hT => absurd hT (by omega)) (fun _ => ⟨rfl, rfl⟩) (M24.castT (by omega))
        | (refine H _ _ _ _ (fun _ => ⟨?_, rfl, rfl⟩) (fun hT => absurd (by omega) hT) (M24.castT (by omega))
           rfl)
  · first
    | exact H _ _ _ _ (fun hT => absurd hT (by omega)) (fun _ => ⟨rfl, rfl⟩) (M2.castT (by omega))
    | (refine H _ _ _ _ (fun _ => ⟨?_, rfl, rfl⟩) (fun hT => absurd (by omega) hT) (M2.castT (by omega))
       rfl)
theorem S_X7_set {d b : Nat} {h0 h : PH} {D : Nat → Int → Int} {s : Int → Int} {t : Int} {Q : Int → PH → Prop} {X : Nat → PH → Prop} {N : Int} {w v : Int} (M : Mt b h0 h D s t) (W : WD D s N) (hvw : InR w) (hvv : InR v) (hc : 0 ≤ D 0 14 ∧ D 0 14 ≤ 8) (H : ∀ (x : Int) h' D' s', (ck (ck (tL D) w 0 (2) 2) v (stl w) (sth w) 2 = 0 → x = s (10 + w) ∧ D' = kpA D s ∧ s' = (ups s (10 + w) v)) → (ck (ck (tL D) w 0 (2) 2) v (stl w) (sth w) 2 ≠ 0 → D' = D ∧ s' = s) → Mt b h0 h' D' s' (ck (ck (tL D) w 0 (2) 2) v (stl w) (sth w) 2) → Q x h') : RUN GQ (d + 4) m_X7_set [pA b, pI w, pI v] h Q X := by
  obtain ⟨w1, w2, w3, wN, ws1, wI⟩ := id W
  have kL := tL_or D
  have k2 := ck_or (tL D) w 0 (2) 2
  have k3 := ck_or (ck (tL D) w 0 (2) 2) v (stl w) (sth w) 2
  have k4 := st_or w
  rw [e_X7_set]
  refine WP.of (RUN.mono GQ _) (cuts := []) (n := 400) (v_X7_set_0 _ _ _ _ _ _ _ ?_)
  refine ⟨M.k0, ?_⟩
  refine S_X7_notLoaded M W (fun x1 h1 e1 M1 => ?_)
  refine ⟨ir (by omega) (by omega), fun c4 => ?_, fun c4 => ?_⟩
  · refine S_X7_inB (by omega) (by omega) (by omega) (fun x11 e11 => ?_)
    refine ⟨ir (by omega) (by omega), fun c14 => ?_, fun c14 => ?_⟩
    · refine ⟨M1.k0, ?_⟩
      refine S_X7_refuse M1 (by omega) (by omega) (by omega) (fun x23 h23 t23 e23 M23 => ?_)
      refine ⟨ir (by omega) (by omega), fun c26 => ?_, fun c26 => ?_⟩
      · refine ⟨ir (by omega) (by omega), fun c32 => ?_, fun c32 => ?_⟩
        · refine S_X7_inB (by omega) (by omega) (by omega) (fun x38 e38 => ?_)
          refine ⟨ir (by omega) (by omega), fun c69 => ?_, fun c69 => ?_⟩
          · refine ⟨M23.k0, ?_⟩
            refine S_X7_refuse M23 (by omega) (by omega) (by omega) (fun x78 h78 t78 e78 M78 => ?_)
            refine ⟨ir (by omega) (by omega), fun c81 => ?_, fun c81 => ?_⟩
            · refine ⟨M78.k0, ?_⟩
              refine S_X7_sets M78 (by omega) (by omega) (fun x94 h94 e94 M94 => ?_)
              subst e94
              first
              | exact H _ _ _ _ (fun hT => absurd hT (by omega)) (fun _ => ⟨rfl, rfl⟩) (M94.castT (by omega))
              | (refine H _ _ _ _ (fun _ => ⟨?_, rfl, rfl⟩) (fun hT => absurd (by omega) hT) (M94.castT (by omega))
                 rfl)
            · first
              | exact H _ _ _ _ (fun hT => absurd hT (by omega)) (fun _ => ⟨rfl, rfl⟩) (M78.castT (by omega))
              | (refine H _ _ _ _ (fun _ => ⟨?_, rfl, rfl⟩) (fun hT => absurd (by omega) hT) (M78.castT (by omega))
                 rfl)
          · refine ⟨M23.k0, ?_⟩
            refine S_X7_refuse M23 (by omega) (by omega) (by omega) (fun x78 h78 t78 e78 M78 => ?_)
            refine ⟨ir (by omega) (by omega), fun c81 => ?_, fun c81 => ?_⟩
            · refine ⟨M78.k0, ?_⟩
              refine S_X7_sets M78 (by omega) (by omega) (fun x94 h94 e94 M94 => ?_)
              subst e94
              first
              | exact H _ _ _ _ (fun hT => absurd hT (by omega)) (fun _ => ⟨rfl, rfl⟩) (M94.castT (by omega))
              | (refine H _ _ _ _ (fun _ => ⟨?_, rfl, rfl⟩) (fun hT => absurd (by omega) hT) (M94.castT (by omega))
                 rfl)
            · first
              | exact H _ _ _ _ (fun hT => absurd hT (by omega)) (fun _ => ⟨rfl, rfl⟩) (M78.castT (by omega))
              | (refine H _ _ _ _ (fun _ => ⟨?_, rfl, rfl⟩) (fun hT => absurd (by omega) hT) (M78.castT (by omega))
                 rfl)
        · refine ⟨ir (by omega) (by omega), ir (by omega) (by omega), fun c46 => ?_, fun c46 => ?_⟩
          · refine S_X7_inB (by omega) (by omega) (by omega) (fun x53 e53 => ?_)
            refine ⟨ir (by omega) (by omega), fun c69 => ?_, fun c69 => ?_⟩
            · refine ⟨M23.k0, ?_⟩
              refine S_X7_refuse M23 (by omega) (by omega) (by omega) (fun x78 h78 t78 e78 M78 => ?_)
              refine ⟨ir (by omega) (by omega), fun c81 => ?_, fun c81 => ?_⟩
              · refine ⟨M78.k0, ?_⟩
                refine S_X7_sets M78 (by omega) (by omega) (fun x94 h94 e94 M94 => ?_)
                subst e94
                first
                | exact H _ _ _ _ (fun hT => absurd hT (by omega)) (fun _ => ⟨rfl, rfl⟩) (M94.castT (by omega))
                | (refine H _ _ _ _ (fun _ => ⟨?_, rfl, rfl⟩) (fun hT => absurd (by omega) hT) (M94.castT (by omega))
                   rfl)
              · first
                | exact H _ _ _ _ (fun hT => absurd hT (by omega)) (fun _ => ⟨rfl, rfl⟩) (M78.castT (by omega))
                | (refine H _ _ _ _ (fun _ => ⟨?_, rfl, rfl⟩) (fun hT => absurd (by omega) hT) (M78.castT (by omega))
                   rfl)
            · refine ⟨M23.k0, ?_⟩
              refine S_X7_refuse M23 (by omega) (by omega) (by omega) (fun x78 h78 t78 e78 M78 => ?_)
              refine ⟨ir (by omega) (by omega), fun c81 => ?_, fun c81 => ?_⟩
              · refine ⟨M78.k0, ?_⟩
                refine S_X7_sets M78 (by omega) (by omega) (fun x94 h94 e94 M94 => ?_)
                subst e94
                first
                | exact H _ _ _ _ (fun hT => absurd hT (by omega)) (fun _ => ⟨rfl, rfl⟩) (M94.castT (by omega))
                | (refine H _ _ _ _ (fun _ => ⟨?_, rfl, rfl⟩) (fun hT => absurd (by omega) hT) (M94.castT (by omega))
                   rfl)
              · first
                | exact H _ _ _ _ (fun hT => absurd hT (by omega)) (fun _ => ⟨rfl, rfl⟩) (M78.castT (by omega))
                | (refine H _ _ _ _ (fun _ => ⟨?_, rfl, rfl⟩) (fun hT => absurd (by omega) hT) (M78.castT (by omega))
                   rfl)
          · refine S_X7_inB (by omega) (by omega) (by omega) (fun x63 e63 => ?_)
            refine ⟨ir (by omega) (by omega), fun c69 => ?_, fun c69 => ?_⟩
            · refine ⟨M23.k0, ?_⟩
              refine S_X7_refuse M23 (by omega) (by omega) (by omega) (fun x78 h78 t78 e78 M78 => ?_)
              refine ⟨ir (by omega) (by omega), fun c81 => ?_, fun c81 => ?_⟩
              · refine ⟨M78.k0, ?_⟩
                refine S_X7_sets M78 (by omega) (by omega) (fun x94 h94 e94 M94 => ?_)
                subst e94
                first
                | exact H _ _ _ _ (fun hT => absurd hT (by omega)) (fun _ => ⟨rfl, rfl⟩) (M94.castT (by omega))
                | (refine H _ _ _ _ (fun _ => ⟨?_, rfl, rfl⟩) (fun hT => absurd (by omega) hT) (M94.castT (by omega))
                   rfl)
              · first
                | exact H _ _ _ _ (fun hT => absurd hT (by omega)) (fun _ => ⟨rfl, rfl⟩) (M78.castT (by omega))
                | (refine H _ _ _ _ (fun _ => ⟨?_, rfl, rfl⟩) (fun hT => absurd (by omega) hT) (M78.castT (by omega))
                   rfl)
            · refine ⟨M23.k0, ?_⟩
              refine S_X7_refuse M23 (by omega) (by omega) (by omega) (fun x78 h78 t78 e78 M78 => ?_)
              refine ⟨ir (by omega) (by omega), fun c81 => ?_, fun c81 => ?_⟩
              · refine ⟨M78.k0, ?_⟩
                refine S_X7_sets M78 (by omega) (by omega) (fun x94 h94 e94 M94 => ?_)
                subst e94
                first
                | exact H _ _ _ _ (fun hT => absurd hT (by omega)) (fun _ => ⟨rfl, rfl⟩) (M94.castT (by omega))
                | (refine H _ _ _ _ (fun _ => ⟨?_, rfl, rfl⟩) (fun hT => absurd (by omega) hT) (M94.castT (by omega))
                   rfl)
              · first
                | exact H _ _ _ _ (fun hT => absurd hT (by omega)) (fun _ => ⟨rfl, rfl⟩) (M78.castT (by omega))
                | (refine H _ _ _ _ (fun _ => ⟨?_, rfl, rfl⟩) (fun hT => absurd (by omega) hT) (M78.castT (by omega))
                   rfl)
      · first
        | exact H _ _ _ _ (fun hT => absurd hT (by omega)) (fun _ => ⟨rfl, rfl⟩) (M23.castT (by omega))
        | (refine H _ _ _ _ (fun _ => ⟨?_, rfl, rfl⟩) (fun hT => absurd (by omega) hT) (M23.castT (by omega))
           rfl)
    · refine ⟨M1.k0, ?_⟩
      refine S_X7_refuse M1 (by omega) (by omega) (by omega) (fun x23 h23 t23 e23 M23 => ?_)
      refine ⟨ir (by omega) (by omega), fun c26 => ?_, fun c26 => ?_⟩
      · refine ⟨ir (by omega) (by omega), fun c32 => ?_, fun c32 => ?_⟩
        · refine S_X7_inB (by omega) (by omega) (by omega) (fun x38 e38 => ?_)
          refine ⟨ir (by omega) (by omega), fun c69 => ?_, fun c69 => ?_⟩
          · refine ⟨M23.k0, ?_⟩
            refine S_X7_refuse M23 (by omega) (by omega) (by omega) (fun x78 h78 t78 e78 M78 => ?_)
            refine ⟨ir (by omega) (by omega), fun c81 => ?_, fun c81 => ?_⟩
            · refine ⟨M78.k0, ?_⟩
              refine S_X7_sets M78 (by omega) (by omega) (fun x94 h94 e94 M94 => ?_)
              subst e94
              first
              | exact H _ _ _ _ (fun hT => absurd hT (by omega)) (fun _ => ⟨rfl, rfl⟩) (M94.castT (by omega))
              | (refine H _ _ _ _ (fun _ => ⟨?_, rfl, rfl⟩) (fun hT => absurd (by omega) hT) (M94.castT (by omega))
                 rfl)
            · first
              | exact H _ _ _ _ (fun hT => absurd hT (by omega)) (fun _ => ⟨rfl, rfl⟩) (M78.castT (by omega))
              | (refine H _ _ _ _ (fun _ => ⟨?_, rfl, rfl⟩) (fun hT => absurd (by omega) hT) (M78.castT (by omega))
                 rfl)
          · refine ⟨M23.k0, ?_⟩
            refine S_X7_refuse M23 (by omega) (by omega) (by omega) (fun x78 h78 t78 e78 M78 => ?_)
            refine ⟨ir (by omega) (by omega), fun c81 => ?_, fun c81 => ?_⟩
            · refine ⟨M78.k0, ?_⟩
              refine S_X7_sets M78 (by omega) (by omega) (fun x94 h94 e94 M94 => ?_)
              subst e94
              first
              | exact H _ _ _ _ (fun hT => absurd hT (by omega)) (fun _ => ⟨rfl, rfl⟩) (M94.castT (by omega))
              | (refine H _ _ _ _ (fun _ => ⟨?_, rfl, rfl⟩) (fun hT => absurd (by omega) hT) (M94.castT (by omega))
                 rfl)
            · first
              | exact H _ _ _ _ (fun hT => absurd hT (by omega)) (fun _ => ⟨rfl, rfl⟩) (M78.castT (by omega))
              | (refine H _ _ _ _ (fun _ => ⟨?_, rfl, rfl⟩) (fun hT => absurd (by omega) hT) (M78.castT (by omega))
                 rfl)
        · refine ⟨ir (by omega) (by omega), ir (by omega) (by omega), fun c46 => ?_, fun c46 => ?_⟩
          · refine S_X7_inB (by omega) (by omega) (by omega) (fun x53 e53 => ?_)
            refine ⟨ir (by omega) (by omega), fun c69 => ?_, fun c69 => ?_⟩
            · refine ⟨M23.k0, ?_⟩
              refine S_X7_refuse M23 (by omega) (by omega) (by omega) (fun x78 h78 t78 e78 M78 => ?_)
              refine ⟨ir (by omega) (by omega), fun c81 => ?_, fun c81 => ?_⟩
              · refine ⟨M78.k0, ?_⟩
                refine S_X7_sets M78 (by omega) (by omega) (fun x94 h94 e94 M94 => ?_)
                subst e94
                first
                | exact H _ _ _ _ (fun hT => absurd hT (by omega)) (fun _ => ⟨rfl, rfl⟩) (M94.castT (by omega))
                | (refine H _ _ _ _ (fun _ => ⟨?_, rfl, rfl⟩) (fun hT => absurd (by omega) hT) (M94.castT (by omega))
                   rfl)
              · first
                | exact H _ _ _ _ (fun hT => absurd hT (by omega)) (fun _ => ⟨rfl, rfl⟩) (M78.castT (by omega))
                | (refine H _ _ _ _ (fun _ => ⟨?_, rfl, rfl⟩) (fun hT => absurd (by omega) hT) (M78.castT (by omega))
                   rfl)
            · refine ⟨M23.k0, ?_⟩
              refine S_X7_refuse M23 (by omega) (by omega) (by omega) (fun x78 h78 t78 e78 M78 => ?_)
              refine ⟨ir (by omega) (by omega), fun c81 => ?_, fun c81 => ?_⟩
              · refine ⟨M78.k0, ?_⟩
                refine S_X7_sets M78 (by omega) (by omega) (fun x94 h94 e94 M94 => ?_)
                subst e94
                first
                | exact H _ _ _ _ (fun hT => absurd hT (by omega)) (fun _ => ⟨rfl, rfl⟩) (M94.castT (by omega))
                | (refine H _ _ _ _ (fun _ => ⟨?_, rfl, rfl⟩) (fun hT => absurd (by omega) hT) (M94.castT (by omega))
                   rfl)
              · first
                | exact H _ _ _ _ (fun hT => absurd hT (by omega)) (fun _ => ⟨rfl, rfl⟩) (M78.castT (by omega))
                | (refine H _ _ _ _ (fun _ => ⟨?_, rfl, rfl⟩) (fun hT => absurd (by omega) hT) (M78.castT (by omega))
                   rfl)
          · refine S_X7_inB (by omega) (by omega) (by omega) (fun x63 e63 => ?_)
            refine ⟨ir (by omega) (by omega), fun c69 => ?_, fun c69 => ?_⟩
            · refine ⟨M23.k0, ?_⟩
              refine S_X7_refuse M23 (by omega) (by omega) (by omega) (fun x78 h78 t78 e78 M78 => ?_)
              refine ⟨ir (by omega) (by omega), fun c81 => ?_, fun c81 => ?_⟩
              · refine ⟨M78.k0, ?_⟩
                refine S_X7_sets M78 (by omega) (by omega) (fun x94 h94 e94 M94 => ?_)
                subst e94
                first
                | exact H _ _ _ _ (fun hT => absurd hT (by omega)) (fun _ => ⟨rfl, rfl⟩) (M94.castT (by omega))
                | (refine H _ _ _ _ (fun _ => ⟨?_, rfl, rfl⟩) (fun hT => absurd (by omega) hT) (M94.castT (by omega))
                   rfl)
              · first
                | exact H _ _ _ _ (fun hT => absurd hT (by omega)) (fun _ => ⟨rfl, rfl⟩) (M78.castT (by omega))
                | (refine H _ _ _ _ (fun _ => ⟨?_, rfl, rfl⟩) (fun hT => absurd (by omega) hT) (M78.castT (by omega))
                   rfl)
            · refine ⟨M23.k0, ?_⟩
              refine S_X7_refuse M23 (by omega) (by omega) (by omega) (fun x78 h78 t78 e78 M78 => ?_)
              refine ⟨ir (by omega) (by omega), fun c81 => ?_, fun c81 => ?_⟩
              · refine ⟨M78.k0, ?_⟩
                refine S_X7_sets M78 (by omega) (by omega) (fun x94 h94 e94 M94 => ?_)
                subst e94
                first
                | exact H _ _ _ _ (fun hT => absurd hT (by omega)) (fun _ => ⟨rfl, rfl⟩) (M94.castT (by omega))
                | (refine H _ _ _ _ (fun _ => ⟨?_, rfl, rfl⟩) (fun hT => absurd (by omega) hT) (M94.castT (by omega))
                   rfl)
              · first
                | exact H _ _ _ _ (fun hT => absurd hT (by omega)) (fun _ => ⟨rfl, rfl⟩) (M78.castT (by omega))
                | (refine H _ _ _ _ (fun _ => ⟨?_, rfl, rfl⟩) (fun hT => absurd (by omega) hT) (M78.castT (by omega))
                   rfl)
      · first
        | exact H _ _ _ _ (fun hT => absurd hT (by omega)) (fun _ => ⟨rfl, rfl⟩) (M23.castT (by omega))
        | (refine H _ _ _ _ (fun _ => ⟨?_, rfl, rfl⟩) (fun hT => absurd (by omega) hT) (M23.castT (by omega))
           rfl)
  · first
    | exact H _ _ _ _ (fun hT => absurd hT (by omega)) (fun _ => ⟨rfl, rfl⟩) (M1.castT (by omega))
    | (refine H _ _ _ _ (fun _ => ⟨?_, rfl, rfl⟩) (fun hT => absurd (by omega) hT) (M1.castT (by omega))
       rfl)
theorem S_X7_undo {d b : Nat} {h0 h : PH} {D : Nat → Int → Int} {s : Int → Int} {t : Int} {Q : Int → PH → Prop} {X : Nat → PH → Prop} (M : Mt b h0 h D s t) (hc : 0 ≤ D 0 14 ∧ D 0 14 ≤ 8) (H : ∀ (x : Int) h' D' s', (tUn D = 0 → x = D 0 14 - 1 ∧ D' = (dst D 0 14 (D 0 14 - 1)) ∧ s' = (scp (861 * (D 0 14 - 1)) (D 8) 861 0 s)) → (tUn D ≠ 0 → D' = D ∧ s' = s) → Mt b h0 h' D' s' (tUn D) → Q x h') : RUN GQ (d + 2) m_X7_undo [pA b] h Q X := by
  have k1 := tUn_or D
  rw [e_X7_undo]
  refine WP.of (RUN.mono GQ _) (cuts := []) (n := 400) (v_X7_undo_0 _ _ _ _ ?_)
  refine M.p0 (fun h2 M2 => ?_)
  refine ⟨M2.k0, ?_⟩
  try rw [M2.f14]
  refine ⟨ir (by omega) (by omega), fun c10 => ?_, fun c10 => ?_⟩
  · refine ⟨M2.k0, ?_⟩
    refine S_X7_refuse M2 (by omega) (by omega) (by omega) (fun x19 h19 t19 e19 M19 => ?_)
    refine ⟨ir (by omega) (by omega), fun c22 => ?_, fun c22 => ?_⟩
    · refine ⟨M19.k0, ?_⟩
      try rw [M19.f14]
      refine M19.p14 (fun h34 M34 => ?_)
      refine ⟨M34.k0, ?_⟩
      try rw [M34.f14]
      refine ⟨M34.k0, ?_⟩
      refine S_X7_fetches M34 (by rw [dst_eq]; omega) (fun x44 h44 e44 M44 => ?_)
      subst e44
      have N44 := Mt.cast (s' := scp (861 * (D 0 14 - 1)) (D 8) 861 0 s) M44 (by rw [dst_eq, dst_row (by decide), Int.zero_add])
      refine ⟨N44.k0, ?_⟩
      try rw [N44.f14]
      first
      | exact H _ _ _ _ (fun hT => absurd hT (by omega)) (fun _ => ⟨rfl, rfl⟩) (N44.castT (by omega))
      | (refine H _ _ _ _ (fun _ => ⟨?_, rfl, rfl⟩) (fun hT => absurd (by omega) hT) (N44.castT (by omega))
         rw [dst_eq])
    · first
      | exact H _ _ _ _ (fun hT => absurd hT (by omega)) (fun _ => ⟨rfl, rfl⟩) (M19.castT (by omega))
      | (refine H _ _ _ _ (fun _ => ⟨?_, rfl, rfl⟩) (fun hT => absurd (by omega) hT) (M19.castT (by omega))
         rw [dst_eq])
  · refine ⟨M2.k0, ?_⟩
    refine S_X7_refuse M2 (by omega) (by omega) (by omega) (fun x19 h19 t19 e19 M19 => ?_)
    refine ⟨ir (by omega) (by omega), fun c22 => ?_, fun c22 => ?_⟩
    · refine ⟨M19.k0, ?_⟩
      try rw [M19.f14]
      refine M19.p14 (fun h34 M34 => ?_)
      refine ⟨M34.k0, ?_⟩
      try rw [M34.f14]
      refine ⟨M34.k0, ?_⟩
      refine S_X7_fetches M34 (by rw [dst_eq]; omega) (fun x44 h44 e44 M44 => ?_)
      subst e44
      have N44 := Mt.cast (s' := scp (861 * (D 0 14 - 1)) (D 8) 861 0 s) M44 (by rw [dst_eq, dst_row (by decide), Int.zero_add])
      refine ⟨N44.k0, ?_⟩
      try rw [N44.f14]
      first
      | exact H _ _ _ _ (fun hT => absurd hT (by omega)) (fun _ => ⟨rfl, rfl⟩) (N44.castT (by omega))
      | (refine H _ _ _ _ (fun _ => ⟨?_, rfl, rfl⟩) (fun hT => absurd (by omega) hT) (N44.castT (by omega))
         rw [dst_eq])
    · first
      | exact H _ _ _ _ (fun hT => absurd hT (by omega)) (fun _ => ⟨rfl, rfl⟩) (M19.castT (by omega))
      | (refine H _ _ _ _ (fun _ => ⟨?_, rfl, rfl⟩) (fun hT => absurd (by omega) hT) (M19.castT (by omega))
         rw [dst_eq])
