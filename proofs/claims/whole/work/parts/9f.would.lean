/-! the model: what would be (written by wip/whole/tools/eng.py) -/
section VCS
variable {call : PC} {mc ms fr : Nat} {Q : Int → PH → Prop} {X : Nat → PH → Prop} {K : PK}
set_option maxRecDepth 100000 in
theorem v_X7_isIdle_0 (a0 : Nat) (i1 : Int) (h : PH) (c s : Nat) (H : hk h a0 = 8 ∧ (hk h (hr h a0 11) = 20 ∨ hk h (hr h a0 11) = 26) ∧ (0 ≤ (115 + i1) ∧ (115 + i1) < (hl h (hr h a0 11) : Int)) ∧ InR (hi h (hr h a0 11) (Int.toNat ((115 + i1)))) ∧ ((hi h (hr h a0 11) (Int.toNat ((115 + i1)))) = 0 →
 hk h a0 = 8 ∧ (hk h (hr h a0 11) = 20 ∨ hk h (hr h a0 11) = 26) ∧ (0 ≤ (511 + i1) ∧ (511 + i1) < (hl h (hr h a0 11) : Int)) ∧ InR (hi h (hr h a0 11) (Int.toNat ((511 + i1)))) ∧ ((hi h (hr h a0 11) (Int.toNat ((511 + i1)))) = 0 →
 ((1 : Int) = 0 ∨ (1 : Int) = 1) ∧ Q 1 h) ∧
((hi h (hr h a0 11) (Int.toNat ((511 + i1)))) ≠ 0 →
 ((0 : Int) = 0 ∨ (0 : Int) = 1) ∧ Q 0 h)) ∧
((hi h (hr h a0 11) (Int.toNat ((115 + i1)))) ≠ 0 →
 ((0 : Int) = 0 ∨ (0 : Int) = 1) ∧ Q 0 h)) : wpc k_X7_isIdle [] call mc ms fr Q X [] K 400 (pto 0 k_X7_isIdle) [some (pA a0), some (pI i1)] [] h c s :=
  H
set_option maxRecDepth 100000 in
theorem v_X7_areIdle_0 (a0 : Nat) (i1 : Int) (h : PH) (c s : Nat) (H : InR i1 ∧ InR ((-1)) ∧ (i1 = ((-1)) →
 hk h a0 = 8 ∧ call m_X7_sumOf [pA a0, pI 115] h (fun x1 h1 =>
 InR x1 ∧ (x1 = 0 →
 hk h1 a0 = 8 ∧ call m_X7_sumOf [pA a0, pI 511] h1 (fun x2 h2 =>
 InR x2 ∧ (x2 = 0 →
 ((1 : Int) = 0 ∨ (1 : Int) = 1) ∧ Q 1 h2) ∧
(x2 ≠ 0 →
 ((0 : Int) = 0 ∨ (0 : Int) = 1) ∧ Q 0 h2)) X) ∧
(x1 ≠ 0 →
 ((0 : Int) = 0 ∨ (0 : Int) = 1) ∧ Q 0 h1)) X) ∧
(i1 ≠ ((-1)) →
 hk h a0 = 8 ∧ call m_X7_isIdle [pA a0, pI i1] h (fun x3 h3 =>
 (x3 = 0 ∨ x3 = 1) ∧ Q x3 h3) X)) : wpc k_X7_areIdle [] call mc ms fr Q X [] K 400 (pto 0 k_X7_areIdle) [some (pA a0), some (pI i1)] [] h c s :=
  H
set_option maxRecDepth 100000 in
theorem v_X7_ticksToIdle_0 (a0 : Nat) (i1 : Int) (z2 : Option PV) (z3 : Option PV) (h : PH) (c s : Nat) (H : hk h a0 = 8 ∧ call m_X7_putsAside [pA a0] h (fun _ h1 =>
 K 6 [some (pA a0), some (pI i1), some (pI 0), z3] [] h1 c s) X) : wpc k_X7_ticksToIdle [] call mc ms fr Q X [6] K 400 (pto 0 k_X7_ticksToIdle) [some (pA a0), some (pI i1), z2, z3] [] h c s :=
  H
set_option maxRecDepth 100000 in
theorem v_X7_ticksToIdle_6 (a0 : Nat) (i1 : Int) (i2 : Int) (z3 : Option PV) (h : PH) (c s : Nat) (H : InR i2 ∧ InR 200 ∧ (i2 < 200 →
 hk h a0 = 8 ∧ call m_X7_areIdle [pA a0, pI i1] h (fun x1 h1 =>
 InR x1 ∧ (x1 = 0 →
 hk h1 a0 = 8 ∧ call m_X7_ticksOnce [pA a0] h1 (fun _ h2 =>
 K 6 [some (pA a0), some (pI i1), some (pI (i2 + 1)), z3] [] h2 c s) X) ∧
(x1 ≠ 0 →
 hk h1 a0 = 8 ∧ call m_X7_areIdle [pA a0, pI i1] h1 (fun x3 h3 =>
 hk h3 a0 = 8 ∧ call m_X7_fetchesBack [pA a0] h3 (fun _ h4 =>
 InR x3 ∧ (x3 = 0 →
 Q ((-1)) h4) ∧
(x3 ≠ 0 →
 Q i2 h4)) X) X)) X) ∧
(200 ≤ i2 →
 hk h a0 = 8 ∧ call m_X7_areIdle [pA a0, pI i1] h (fun x5 h5 =>
 hk h5 a0 = 8 ∧ call m_X7_fetchesBack [pA a0] h5 (fun _ h6 =>
 InR x5 ∧ (x5 = 0 →
 Q ((-1)) h6) ∧
(x5 ≠ 0 →
 Q i2 h6)) X) X)) : wpc k_X7_ticksToIdle [] call mc ms fr Q X [6] K 400 (pto 6 k_X7_ticksToIdle) [some (pA a0), some (pI i1), some (pI i2), z3] [] h c s :=
  H
set_option maxRecDepth 100000 in
theorem v_X7_moreOf_0 (a0 : Nat) (i1 : Int) (i2 : Int) (z3 : Option PV) (h : PH) (c s : Nat) (H : hk h a0 = 8 ∧ call m_X7_putsAside [pA a0] h (fun _ h1 =>
 hk h1 a0 = 8 ∧ call m_X7_goesTicks [pA a0, pI i2] h1 (fun _ h2 =>
 hk h2 a0 = 8 ∧ (hk h2 (hr h2 a0 11) = 20 ∨ hk h2 (hr h2 a0 11) = 26) ∧ (0 ≤ i1 ∧ i1 < (hl h2 (hr h2 a0 11) : Int)) ∧ hk h2 a0 = 8 ∧ (hk h2 (hr h2 a0 12) = 20 ∨ hk h2 (hr h2 a0 12) = 26) ∧ (0 ≤ i1 ∧ i1 < (hl h2 (hr h2 a0 12) : Int)) ∧ hk h2 a0 = 8 ∧ call m_X7_fetchesBack [pA a0] h2 (fun _ h3 =>
 Q ((hi h2 (hr h2 a0 11) (Int.toNat i1)) - (hi h2 (hr h2 a0 12) (Int.toNat i1))) h3) X) X) X) : wpc k_X7_moreOf [] call mc ms fr Q X [] K 400 (pto 0 k_X7_moreOf) [some (pA a0), some (pI i1), some (pI i2), z3] [] h c s :=
  H
set_option maxRecDepth 100000 in
theorem v_X7_idleIn_0 (a0 : Nat) (i1 : Int) (h : PH) (c s : Nat) (H : hk h a0 = 8 ∧ call m_X7_noProgram [pA a0, pI i1] h (fun x1 h1 =>
 InR x1 ∧ (x1 = 0 →
 hk h1 a0 = 8 ∧ call m_X7_ticksToIdle [pA a0, pI i1] h1 (fun x2 h2 =>
 Q x2 h2) X) ∧
(x1 ≠ 0 →
 Q 0 h1)) X) : wpc k_X7_idleIn [] call mc ms fr Q X [] K 400 (pto 0 k_X7_idleIn) [some (pA a0), some (pI i1)] [] h c s :=
  H
set_option maxRecDepth 100000 in
theorem v_X7_calmIn_0 (a0 : Nat) (h : PH) (c s : Nat) (H : hk h a0 = 8 ∧ call m_X7_notLoaded [pA a0] h (fun x1 h1 =>
 InR x1 ∧ (x1 = 0 →
 hk h1 a0 = 8 ∧ call m_X7_ticksToIdle [pA a0, pI ((-1))] h1 (fun x2 h2 =>
 Q x2 h2) X) ∧
(x1 ≠ 0 →
 Q 0 h1)) X) : wpc k_X7_calmIn [] call mc ms fr Q X [] K 400 (pto 0 k_X7_calmIn) [some (pA a0)] [] h c s :=
  H
set_option maxRecDepth 100000 in
theorem v_X7_endsIn_0 (a0 : Nat) (i1 : Int) (i2 : Int) (h : PH) (c s : Nat) (H : hk h a0 = 8 ∧ call m_X7_notLoaded [pA a0] h (fun x1 h1 =>
 InR x1 ∧ (x1 = 0 →
 call m_X7_in [pI i1, pI 0, pI 5] h1 (fun x2 h2 =>
 InR x2 ∧ (x2 = 0 →
 hk h2 a0 = 8 ∧ call m_X7_refuse [pA a0, pI 1, pI 2] h2 (fun x3 h3 =>
 InR x3 ∧ (x3 = 0 →
 hk h3 a0 = 8 ∧ call m_X7_moreOf [pA a0, pI (4 + i1), pI i2] h3 (fun x4 h4 =>
 Q x4 h4) X) ∧
(x3 ≠ 0 →
 Q 0 h3)) X) ∧
(x2 ≠ 0 →
 call m_X7_in [pI i2, pI 0, pI 200] h2 (fun x5 h5 =>
 InR x5 ∧ (x5 = 0 →
 hk h5 a0 = 8 ∧ call m_X7_refuse [pA a0, pI 1, pI 2] h5 (fun x6 h6 =>
 InR x6 ∧ (x6 = 0 →
 hk h6 a0 = 8 ∧ call m_X7_moreOf [pA a0, pI (4 + i1), pI i2] h6 (fun x7 h7 =>
 Q x7 h7) X) ∧
(x6 ≠ 0 →
 Q 0 h6)) X) ∧
(x5 ≠ 0 →
 hk h5 a0 = 8 ∧ call m_X7_refuse [pA a0, pI 0, pI 2] h5 (fun x8 h8 =>
 InR x8 ∧ (x8 = 0 →
 hk h8 a0 = 8 ∧ call m_X7_moreOf [pA a0, pI (4 + i1), pI i2] h8 (fun x9 h9 =>
 Q x9 h9) X) ∧
(x8 ≠ 0 →
 Q 0 h8)) X)) X)) X) ∧
(x1 ≠ 0 →
 Q 0 h1)) X) : wpc k_X7_endsIn [] call mc ms fr Q X [] K 400 (pto 0 k_X7_endsIn) [some (pA a0), some (pI i1), some (pI i2)] [] h c s :=
  H
set_option maxRecDepth 100000 in
theorem v_X7_sentIn_0 (a0 : Nat) (i1 : Int) (h : PH) (c s : Nat) (H : hk h a0 = 8 ∧ call m_X7_notLoaded [pA a0] h (fun x1 h1 =>
 InR x1 ∧ (x1 = 0 →
 call m_X7_in [pI i1, pI 0, pI 200] h1 (fun x2 h2 =>
 InR x2 ∧ (x2 = 0 →
 hk h2 a0 = 8 ∧ call m_X7_refuse [pA a0, pI 1, pI 2] h2 (fun x3 h3 =>
 InR x3 ∧ (x3 = 0 →
 hk h3 a0 = 8 ∧ call m_X7_moreOf [pA a0, pI 1, pI i1] h3 (fun x4 h4 =>
 Q x4 h4) X) ∧
(x3 ≠ 0 →
 Q 0 h3)) X) ∧
(x2 ≠ 0 →
 hk h2 a0 = 8 ∧ call m_X7_refuse [pA a0, pI 0, pI 2] h2 (fun x5 h5 =>
 InR x5 ∧ (x5 = 0 →
 hk h5 a0 = 8 ∧ call m_X7_moreOf [pA a0, pI 1, pI i1] h5 (fun x6 h6 =>
 Q x6 h6) X) ∧
(x5 ≠ 0 →
 Q 0 h5)) X)) X) ∧
(x1 ≠ 0 →
 Q 0 h1)) X) : wpc k_X7_sentIn [] call mc ms fr Q X [] K 400 (pto 0 k_X7_sentIn) [some (pA a0), some (pI i1)] [] h c s :=
  H
set_option maxRecDepth 100000 in
theorem v_X7_urgencyIn_0 (a0 : Nat) (i1 : Int) (i2 : Int) (i3 : Int) (z4 : Option PV) (h : PH) (c s : Nat) (H : hk h a0 = 8 ∧ call m_X7_noPair [pA a0, pI i1, pI i2] h (fun x1 h1 =>
 InR x1 ∧ (x1 = 0 →
 call m_X7_in [pI i3, pI 0, pI 200] h1 (fun x2 h2 =>
 InR x2 ∧ (x2 = 0 →
 hk h2 a0 = 8 ∧ call m_X7_refuse [pA a0, pI 1, pI 3] h2 (fun x3 h3 =>
 InR x3 ∧ (x3 = 0 →
 hk h3 a0 = 8 ∧ call m_X7_putsAside [pA a0] h3 (fun _ h4 =>
 hk h4 a0 = 8 ∧ call m_X7_goesTicks [pA a0, pI i3] h4 (fun _ h5 =>
 hk h5 a0 = 8 ∧ call m_X7_urgencyOf [pA a0, pI i1, pI i2] h5 (fun x6 h6 =>
 hk h6 a0 = 8 ∧ call m_X7_fetchesBack [pA a0] h6 (fun _ h7 =>
 Q x6 h7) X) X) X) X) ∧
(x3 ≠ 0 →
 Q 0 h3)) X) ∧
(x2 ≠ 0 →
 hk h2 a0 = 8 ∧ call m_X7_refuse [pA a0, pI 0, pI 3] h2 (fun x8 h8 =>
 InR x8 ∧ (x8 = 0 →
 hk h8 a0 = 8 ∧ call m_X7_putsAside [pA a0] h8 (fun _ h9 =>
 hk h9 a0 = 8 ∧ call m_X7_goesTicks [pA a0, pI i3] h9 (fun _ h10 =>
 hk h10 a0 = 8 ∧ call m_X7_urgencyOf [pA a0, pI i1, pI i2] h10 (fun x11 h11 =>
 hk h11 a0 = 8 ∧ call m_X7_fetchesBack [pA a0] h11 (fun _ h12 =>
 Q x11 h12) X) X) X) X) ∧
(x8 ≠ 0 →
 Q 0 h8)) X)) X) ∧
(x1 ≠ 0 →
 Q 0 h1)) X) : wpc k_X7_urgencyIn [] call mc ms fr Q X [] K 400 (pto 0 k_X7_urgencyIn) [some (pA a0), some (pI i1), some (pI i2), some (pI i3), z4] [] h c s :=
  H
set_option maxRecDepth 100000 in
theorem v_X7_ticksToEnd_0 (a0 : Nat) (i1 : Int) (z2 : Option PV) (h : PH) (c s : Nat) (H : hk h a0 = 8 ∧ call m_X7_placeNow [pA a0, pI i1] h (fun x1 h1 =>
 InR x1 ∧ InR ((-1)) ∧ (x1 = ((-1)) →
 hk h1 a0 = 8 ∧ ∀ h2, h2 = hsi h1 a0 44 ((-1)) →
 Q ((-1)) h2) ∧
(x1 ≠ ((-1)) →
 hk h1 a0 = 8 ∧ call m_X7_putsAside [pA a0] h1 (fun _ h3 =>
 hk h3 a0 = 8 ∧ ∀ h4, h4 = hsi h3 a0 43 i1 →
 hk h4 a0 = 8 ∧ ∀ h5, h5 = hsi h4 a0 44 ((-1)) →
 K 32 [some (pA a0), some (pI i1), some (pI 0)] [] h5 c s) X)) X) : wpc k_X7_ticksToEnd [] call mc ms fr Q X [32] K 400 (pto 0 k_X7_ticksToEnd) [some (pA a0), some (pI i1), z2] [] h c s :=
  H
set_option maxRecDepth 100000 in
theorem v_X7_ticksToEnd_32 (a0 : Nat) (i1 : Int) (i2 : Int) (h : PH) (c s : Nat) (H : InR i2 ∧ InR 200 ∧ (i2 < 200 →
 hk h a0 = 8 ∧ InR (hi h a0 44) ∧ InR ((-1)) ∧ ((hi h a0 44) = ((-1)) →
 hk h a0 = 8 ∧ call m_X7_ticksOnce [pA a0] h (fun _ h1 =>
 K 32 [some (pA a0), some (pI i1), some (pI (i2 + 1))] [] h1 c s) X) ∧
((hi h a0 44) ≠ ((-1)) →
 hk h a0 = 8 ∧ ∀ h2, h2 = hsi h a0 43 ((-1)) →
 hk h2 a0 = 8 ∧ call m_X7_fetchesBack [pA a0] h2 (fun _ h3 =>
 hk h3 a0 = 8 ∧ InR (hi h3 a0 44) ∧ InR ((-1)) ∧ ((hi h3 a0 44) = ((-1)) →
 Q ((-1)) h3) ∧
((hi h3 a0 44) ≠ ((-1)) →
 Q i2 h3)) X)) ∧
(200 ≤ i2 →
 hk h a0 = 8 ∧ ∀ h4, h4 = hsi h a0 43 ((-1)) →
 hk h4 a0 = 8 ∧ call m_X7_fetchesBack [pA a0] h4 (fun _ h5 =>
 hk h5 a0 = 8 ∧ InR (hi h5 a0 44) ∧ InR ((-1)) ∧ ((hi h5 a0 44) = ((-1)) →
 Q ((-1)) h5) ∧
((hi h5 a0 44) ≠ ((-1)) →
 Q i2 h5)) X)) : wpc k_X7_ticksToEnd [] call mc ms fr Q X [32] K 400 (pto 32 k_X7_ticksToEnd) [some (pA a0), some (pI i1), some (pI i2)] [] h c s :=
  H
set_option maxRecDepth 100000 in
theorem v_X7_endIn_0 (a0 : Nat) (i1 : Int) (h : PH) (c s : Nat) (H : hk h a0 = 8 ∧ call m_X7_noSignal [pA a0, pI i1] h (fun x1 h1 =>
 InR x1 ∧ (x1 = 0 →
 hk h1 a0 = 8 ∧ call m_X7_ticksToEnd [pA a0, pI i1] h1 (fun x2 h2 =>
 Q x2 h2) X) ∧
(x1 ≠ 0 →
 Q 0 h1)) X) : wpc k_X7_endIn [] call mc ms fr Q X [] K 400 (pto 0 k_X7_endIn) [some (pA a0), some (pI i1)] [] h c s :=
  H
set_option maxRecDepth 100000 in
theorem v_X7_endOf_0 (a0 : Nat) (i1 : Int) (z2 : Option PV) (h : PH) (c s : Nat) (H : hk h a0 = 8 ∧ call m_X7_noSignal [pA a0, pI i1] h (fun x1 h1 =>
 InR x1 ∧ (x1 = 0 →
 hk h1 a0 = 8 ∧ call m_X7_ticksToEnd [pA a0, pI i1] h1 (fun x2 h2 =>
 hk h2 a0 = 8 ∧ Q (hi h2 a0 44) h2) X) ∧
(x1 ≠ 0 →
 Q 0 h1)) X) : wpc k_X7_endOf [] call mc ms fr Q X [] K 400 (pto 0 k_X7_endOf) [some (pA a0), some (pI i1), z2] [] h c s :=
  H
set_option maxRecDepth 100000 in
theorem v_X7_bestMask_0 (a0 : Nat) (i1 : Int) (z2 : Option PV) (z3 : Option PV) (z4 : Option PV) (z5 : Option PV) (z6 : Option PV) (h : PH) (c s : Nat) (H : hk h a0 = 8 ∧ call m_X7_noProgram [pA a0, pI i1] h (fun x1 h1 =>
 InR x1 ∧ (x1 = 0 →
 hk h1 a0 = 8 ∧ (hk h1 (hr h1 a0 11) = 20 ∨ hk h1 (hr h1 a0 11) = 26) ∧ (0 ≤ (85 + i1) ∧ (85 + i1) < (hl h1 (hr h1 a0 11) : Int)) ∧ K 28 [some (pA a0), some (pI i1), some (pI ((-1))), some (pI 0), some (pI (hi h1 (hr h1 a0 11) (Int.toNat ((85 + i1))))), some (pI 0), z6] [] h1 c s) ∧
(x1 ≠ 0 →
 Q 0 h1)) X) : wpc k_X7_bestMask [] call mc ms fr Q X [28] K 400 (pto 0 k_X7_bestMask) [some (pA a0), some (pI i1), z2, z3, z4, z5, z6] [] h c s :=
  H
set_option maxRecDepth 100000 in
theorem v_X7_bestMask_28 (a0 : Nat) (i1 : Int) (i2 : Int) (i3 : Int) (i4 : Int) (i5 : Int) (z6 : Option PV) (h : PH) (c s : Nat) (H : hk h a0 = 8 ∧ InR i5 ∧ InR (hi h a0 3) ∧ (i5 < (hi h a0 3) →
 hk h a0 = 8 ∧ call m_X7_isMasked [pA a0, pI i1, pI i5] h (fun x1 h1 =>
 InR x1 ∧ (x1 = 0 →
 hk h1 a0 = 8 ∧ hk h1 (hr h1 a0 11) = 20 ∧ (0 ≤ (85 + i1) ∧ (85 + i1) < (hl h1 (hr h1 a0 11) : Int)) ∧ ∀ h2, h2 = hsi h1 (hr h1 a0 11) (Int.toNat ((85 + i1))) (bor i4 (bshl 1 i5)) →
 hk h2 a0 = 8 ∧ call m_X7_moreOf [pA a0, pI ((91 + (4 * i1)) + 3), pI 50] h2 (fun x3 h3 =>
 hk h3 a0 = 8 ∧ hk h3 (hr h3 a0 11) = 20 ∧ (0 ≤ (85 + i1) ∧ (85 + i1) < (hl h3 (hr h3 a0 11) : Int)) ∧ ∀ h4, h4 = hsi h3 (hr h3 a0 11) (Int.toNat ((85 + i1))) i4 →
 InR i2 ∧ InR ((-1)) ∧ (i2 = ((-1)) →
 K 28 [some (pA a0), some (pI i1), some (pI i5), some (pI x3), some (pI i4), some (pI (i5 + 1)), some (pI x3)] [] h4 c s) ∧
(i2 ≠ ((-1)) →
 InR x3 ∧ InR i3 ∧ (x3 < i3 →
 K 28 [some (pA a0), some (pI i1), some (pI i5), some (pI x3), some (pI i4), some (pI (i5 + 1)), some (pI x3)] [] h4 c s) ∧
(i3 ≤ x3 →
 K 28 [some (pA a0), some (pI i1), some (pI i2), some (pI i3), some (pI i4), some (pI (i5 + 1)), some (pI x3)] [] h4 c s))) X) ∧
(x1 ≠ 0 →
 K 28 [some (pA a0), some (pI i1), some (pI i2), some (pI i3), some (pI i4), some (pI (i5 + 1)), z6] [] h1 c s)) X) ∧
((hi h a0 3) ≤ i5 →
 Q i2 h)) : wpc k_X7_bestMask [] call mc ms fr Q X [28] K 400 (pto 28 k_X7_bestMask) [some (pA a0), some (pI i1), some (pI i2), some (pI i3), some (pI i4), some (pI i5), z6] [] h c s :=
  H
end VCS
theorem S_X7_isIdle {d b : Nat} {h0 h : PH} {D : Nat → Int → Int} {s : Int → Int} {t : Int} {Q : Int → PH → Prop} {X : Nat → PH → Prop} {p : Int} (M : Mt b h0 h D s t) (hp : 0 ≤ p ∧ p < 6) (h1 : InR (s (115 + p))) (h2 : InR (s (511 + p))) (H : ∀ x : Int, x = ((if s (115 + p) = 0 ∧ s (511 + p) = 0 then 1 else 0)) → Q x h) : RUN GQ (d + 1) m_X7_isIdle [pA b, pI p] h Q X := by
  rw [e_X7_isIdle]
  refine WP.of (RUN.mono GQ _) (cuts := []) (n := 400) (v_X7_isIdle_0 _ _ _ _ _ ?_)
  refine ⟨M.k0, ?_⟩
  try rw [M.r11]
  refine M.ld6 (by omega) (by omega) (fun er => ?_)
  try rw [er]
  clear er
  refine ⟨ir (by omega) (by omega), fun c9 => ?_, fun c9 => ?_⟩
  · refine ⟨M.k0, ?_⟩
    try rw [M.r11]
    refine M.ld6 (by omega) (by omega) (fun er => ?_)
    try rw [er]
    clear er
    refine ⟨ir (by omega) (by omega), fun c22 => ?_, fun c22 => ?_⟩
    · refine ⟨(by omega), ?_⟩
      refine H _ ?_
      split <;> omega
    · refine ⟨(by omega), ?_⟩
      refine H _ ?_
      split <;> omega
  · refine ⟨(by omega), ?_⟩
    refine H _ ?_
    split <;> omega
theorem S_X7_areIdle {d b : Nat} {h0 h : PH} {D : Nat → Int → Int} {s : Int → Int} {t : Int} {Q : Int → PH → Prop} {X : Nat → PH → Prop} {N : Int} {p : Int} (M : Mt b h0 h D s t) (I : HI (D 0 3) (D 0 4) (D 0 2) N s) (hN : N ≤ 1999000000) (hp : p = -1 ∨ 0 ≤ p ∧ p < 6) (hP : 0 ≤ D 0 4 ∧ D 0 4 ≤ 6) (H : ∀ x : Int, x = (idc D s p) → Q x h) : RUN GQ (d + 2) m_X7_areIdle [pA b, pI p] h Q X := by
  have hs1 := suml_D (s := s) (a := 115) (D 0 4).toNat 0 0 (fun q a b => by have := I.qn (p := q) ⟨by omega, by omega⟩; have := I.hq.1; omega) (by omega)
  have hs2 := suml_D (s := s) (a := 511) (D 0 4).toNat 0 0 (fun q a b => by have := I.sn (p := q) ⟨by omega, by omega⟩; omega) (by omega)
  rw [e_X7_areIdle]
  refine WP.of (RUN.mono GQ _) (cuts := []) (n := 400) (v_X7_areIdle_0 _ _ _ _ _ ?_)
  refine ⟨ir (by omega) (by omega), ir (by omega) (by omega), fun c2 => ?_, fun c2 => ?_⟩
  · refine ⟨M.k0, ?_⟩
    refine S_X7_sumOf M (by omega) (by omega) (fun x16 e16 => ?_)
    subst e16
    refine ⟨ir (by omega) (by omega), fun c19 => ?_, fun c19 => ?_⟩
    · refine ⟨M.k0, ?_⟩
      refine S_X7_sumOf M (by omega) (by omega) (fun x26 e26 => ?_)
      subst e26
      refine ⟨ir (by omega) (by omega), fun c29 => ?_, fun c29 => ?_⟩
      · refine ⟨(by omega), ?_⟩
        refine H _ ?_
        unfold idc
        first | (rw [if_pos c2]; done) | (rw [if_neg (fun z => z c2)]; split <;> omega) | (split <;> split <;> omega)
      · refine ⟨(by omega), ?_⟩
        refine H _ ?_
        unfold idc
        first | (rw [if_pos c2]; done) | (rw [if_neg (fun z => z c2)]; split <;> omega) | (split <;> split <;> omega)
    · refine ⟨(by omega), ?_⟩
      refine H _ ?_
      unfold idc
      first | (rw [if_pos c2]; done) | (rw [if_neg (fun z => z c2)]; split <;> omega) | (split <;> split <;> omega)
  · have qn := I.qn (p := p) (by omega)
    have sn := I.sn (p := p) (by omega)
    have q13 := I.hq.1
    refine ⟨M.k0, ?_⟩
    refine S_X7_isIdle M (by omega) (by omega) (by omega) (fun x7 e7 => ?_)
    subst e7
    refine ⟨(by omega), ?_⟩
    refine H _ ?_
    unfold idc
    first | (rw [if_pos c2]; done) | (rw [if_neg (fun z => z c2)]; split <;> omega) | (split <;> split <;> omega)
theorem L_X7_ticksToIdle_6 {d b : Nat} {h0 : PH} {D : Nat → Int → Int} {t : Int} {Q : Int → PH → Prop} {X : Nat → PH → Prop} {p : Int} {s0 : Int → Int} (V : PIv D) (hp : p = -1 ∨ 0 ≤ p ∧ p < 6) (hr0 : ∀ e, 0 ≤ e → e < 861 → D 7 e = s0 e) : ∀ (n : Nat) (k : Int) (z3 : Option PV) (s : Int → Int) (h : PH) (N : Int), (Mt b h0 h D s t) → (HI (D 0 3) (D 0 4) (D 0 2) N s) → (0 ≤ k) → (k + n = 200) → (N + 481 * n ≤ 1998000000) → (s (-1) = -1) → (∀ e, e < 0 ∨ 861 ≤ e → s e = s0 e) → (∀ (x : Int) h', x = til D p n k s → Mt b h0 h' D s0 t → Q x h') → WP k_X7_ticksToIdle [] (RUN GQ (d + 8)) 0 0 (d + 9) Q X 6 [some (pA b), some (pI p), some (pI k), z3] [] h 0 0 := by
  intro n
  induction n with
  | zero =>
    intro k z3 s h N M I hk0 hn0 hN hw ho H
    obtain ⟨v2, v3, v4, vh⟩ := id V
    have i01 := idc_01 D s p
    refine WP.of (RUN.mono GQ _) (cuts := [6]) (n := 400) (v_X7_ticksToIdle_6 _ _ _ _ _ _ _ ?_)
    refine ⟨ir (by omega) (by omega), ir (by omega) (by omega), fun c10 => ?_, fun c10 => ?_⟩
    · exfalso; omega
    · refine ⟨M.k0, ?_⟩
      refine S_X7_areIdle M I (by omega) (by omega) (by omega) (fun x33 e33 => ?_)
      subst e33
      refine ⟨M.k0, ?_⟩
      refine S_X7_fetchesBack M (fun x38 h38 e38 M38 => ?_)
      subst e38
      refine ⟨ir (by omega) (by omega), fun c42 => ?_, fun c42 => ?_⟩
      · first
        | (exfalso; omega)
        | (refine H _ _ ?_ (M38.cast (back_eq ho hr0).symm)
           first
           | (rw [til, if_pos (by omega)]; done)
           | (rw [til, if_neg (by omega)]; done))
      · first
        | (exfalso; omega)
        | (refine H _ _ ?_ (M38.cast (back_eq ho hr0).symm)
           first
           | (rw [til, if_pos (by omega)]; done)
           | (rw [til, if_neg (by omega)]; done))
  | succ n ih =>
    intro k z3 s h N M I hk0 hn0 hN hw ho H
    obtain ⟨v2, v3, v4, vh⟩ := id V
    have i01 := idc_01 D s p
    refine WP.of (RUN.mono GQ _) (cuts := [6]) (n := 400) (v_X7_ticksToIdle_6 _ _ _ _ _ _ _ ?_)
    refine ⟨ir (by omega) (by omega), ir (by omega) (by omega), fun c10 => ?_, fun c10 => ?_⟩
    · refine ⟨M.k0, ?_⟩
      refine S_X7_areIdle M I (by omega) (by omega) (by omega) (fun x15 e15 => ?_)
      subst e15
      refine ⟨ir (by omega) (by omega), fun c18 => ?_, fun c18 => ?_⟩
      · refine ⟨M.k0, ?_⟩
        refine S_X7_ticksOnce_t M I V (by omega) (fun x22 h22 e22 M22 => ?_)
        subst e22
        have I22 := tick_HI I V rfl rfl
        refine ih _ _ _ _ _ M22 I22 (by omega) (by omega) (by omega) (by rw [tick_neg I V rfl rfl]; exact hw) (by exact fun e he => (tick_out he (fun _ => hw) I V rfl rfl).trans (ho e he)) ?_
        rw [til, if_neg (by omega)] at H
        exact H
      · refine ⟨M.k0, ?_⟩
        refine S_X7_areIdle M I (by omega) (by omega) (by omega) (fun x33 e33 => ?_)
        subst e33
        refine ⟨M.k0, ?_⟩
        refine S_X7_fetchesBack M (fun x38 h38 e38 M38 => ?_)
        subst e38
        refine ⟨ir (by omega) (by omega), fun c42 => ?_, fun c42 => ?_⟩
        · first
          | (exfalso; omega)
          | (refine H _ _ ?_ (M38.cast (back_eq ho hr0).symm)
             first
             | (rw [til, if_pos (by omega)]; done)
             | (rw [til, if_neg (by omega)]; done))
        · first
          | (exfalso; omega)
          | (refine H _ _ ?_ (M38.cast (back_eq ho hr0).symm)
             first
             | (rw [til, if_pos (by omega)]; done)
             | (rw [til, if_neg (by omega)]; done))
    · exfalso; omega
theorem S_X7_ticksToIdle {d b : Nat} {h0 h : PH} {D : Nat → Int → Int} {s : Int → Int} {t : Int} {Q : Int → PH → Prop} {X : Nat → PH → Prop} {N : Int} {p : Int} (M : Mt b h0 h D s t) (I : HI (D 0 3) (D 0 4) (D 0 2) N s) (V : PIv D) (hN : N ≤ 1990000000) (hw : s (-1) = -1) (hp : p = -1 ∨ 0 ≤ p ∧ p < 6) (H : ∀ (x : Int) h', x = (til D p 200 0 s) → Mt b h0 h' (dcp 7 0 s 861 0 D) s t → Q x h') : RUN GQ (d + 9) m_X7_ticksToIdle [pA b, pI p] h Q X := by
  rw [e_X7_ticksToIdle]
  refine WP.of (RUN.mono GQ _) (cuts := [6]) (n := 400) (v_X7_ticksToIdle_0 _ _ _ _ _ _ _ ?_)
  refine ⟨M.k0, ?_⟩
  refine S_X7_putsAside M (fun x1 h1 e1 M1 => ?_)
  subst e1
  have q := aside_D D s
  have I2 := HI.eqD q I
  have V2 := V.eq q
  refine L_X7_ticksToIdle_6 V2 hp (fun e a b => aside_at D s a b) (200) _ _ _ _ _ M1 I2 (by omega) (by omega) (by omega) (by exact hw) (by exact fun _ _ => rfl) ?_
  refine fun x h' e M => H x h' (e.trans ?_) M
  exact til_D q _ _ _ _
theorem S_X7_moreOf {d b : Nat} {h0 h : PH} {D : Nat → Int → Int} {s : Int → Int} {t : Int} {Q : Int → PH → Prop} {X : Nat → PH → Prop} {N : Int} {at' m : Int} (M : Mt b h0 h D s t) (I : HI (D 0 3) (D 0 4) (D 0 2) N s) (V : PIv D) (hN : N ≤ 1990000000) (hw : s (-1) = -1) (ha : 0 ≤ at' ∧ at' < 861) (hm : 0 ≤ m ∧ m ≤ 200) (H : ∀ (x : Int) h', x = (e_tks D m.toNat s at' - s at') → Mt b h0 h' (dcp 7 0 s 861 0 D) s t → Q x h') : RUN GQ (d + 10) m_X7_moreOf [pA b, pI at', pI m] h Q X := by
  rw [e_X7_moreOf]
  refine WP.of (RUN.mono GQ _) (cuts := []) (n := 400) (v_X7_moreOf_0 _ _ _ _ _ _ _ ?_)
  refine ⟨M.k0, ?_⟩
  refine S_X7_putsAside M (fun x1 h1 e1 M1 => ?_)
  subst e1
  have q := aside_D D s
  have I2 := HI.eqD q I
  have V2 := V.eq q
  refine ⟨M1.k0, ?_⟩
  refine S_X7_goesTicks_t M1 I2 V2 (by omega) (by omega) (fun x6 h6 e6 M6 => ?_)
  subst e6
  have N6 := Mt.cast (s' := e_tks D m.toNat s) M6 (tks_D q _ _).symm
  refine ⟨N6.k0, ?_⟩
  try rw [N6.r11]
  refine N6.ld6 (by omega) (by omega) (fun er => ?_)
  try rw [er]
  clear er
  refine ⟨N6.k0, ?_⟩
  try rw [N6.r12]
  refine N6.ld7 (by omega) (by omega) (fun er => ?_)
  try rw [er]
  clear er
  rw [aside_at D s ha.1 ha.2]
  refine ⟨N6.k0, ?_⟩
  refine S_X7_fetchesBack N6 (fun x24 h24 e24 M24 => ?_)
  subst e24
  have N24 := Mt.cast (s' := s) M24 (back_eq (fun e he => tks_out he V rfl rfl _ _ _ I (fun _ => hw)) (fun e a b => aside_at D s a b)).symm
  refine H _ _ ?_ ?_
  · first | rfl | omega
  · exact N24
theorem S_X7_idleIn {d b : Nat} {h0 h : PH} {D : Nat → Int → Int} {s : Int → Int} {t : Int} {Q : Int → PH → Prop} {X : Nat → PH → Prop} {N : Int} {p : Int} (M : Mt b h0 h D s t) (W : WD D s N) (hvp : InR p) (H : ∀ (x : Int) h' D', (ck (tL D) p 0 (D 0 4 - 1) 2 = 0 → x = til D p 200 0 s ∧ ∀ j, j ≠ 7 → D' j = D j) → (ck (tL D) p 0 (D 0 4 - 1) 2 ≠ 0 → D' = D) → Mt b h0 h' D' s (ck (tL D) p 0 (D 0 4 - 1) 2) → Q x h') : RUN GQ (d + 10) m_X7_idleIn [pA b, pI p] h Q X := by
  obtain ⟨w1, w2, w3, wN, ws1, wI⟩ := id W
  have kL := tL_or D
  have k1 := ck_or (tL D) p 0 (D 0 4 - 1) 2
  rw [e_X7_idleIn]
  refine WP.of (RUN.mono GQ _) (cuts := []) (n := 400) (v_X7_idleIn_0 _ _ _ _ _ ?_)
  refine ⟨M.k0, ?_⟩
  refine S_X7_noProgram M W (by omega) (fun x2 h2 e2 M2 => ?_)
  refine ⟨ir (by omega) (by omega), fun c5 => ?_, fun c5 => ?_⟩
  · obtain ⟨I, V, sw⟩ := wI (by omega)
    refine ⟨M2.k0, ?_⟩
    refine S_X7_ticksToIdle M2 I V (by omega) sw (by omega) (fun x14 h14 e14 M14 => ?_)
    subst e14
    first
    | (exfalso; omega)
    | (have hT : ck (tL D) p 0 (D 0 4 - 1) 2 ≠ 0 := by omega
       exact H _ _ D (fun z => absurd z hT) (fun _ => rfl) (M14.castT (by omega)))
    | (have hT : ck (tL D) p 0 (D 0 4 - 1) 2 = 0 := by omega
       refine H _ _ _ (fun _ => ⟨?_, fun j hj => aside_row D s hj⟩) (fun z => absurd hT z) (M14.castT (by omega))
       rfl)
  · first
    | (exfalso; omega)
    | (have hT : ck (tL D) p 0 (D 0 4 - 1) 2 ≠ 0 := by omega
       exact H _ _ D (fun z => absurd z hT) (fun _ => rfl) (M2.castT (by omega)))
    | (have hT : ck (tL D) p 0 (D 0 4 - 1) 2 = 0 := by omega
       refine H _ _ _ (fun _ => ⟨?_, fun j hj => aside_row D s hj⟩) (fun z => absurd hT z) (M2.castT (by omega))
       rfl)
theorem S_X7_calmIn {d b : Nat} {h0 h : PH} {D : Nat → Int → Int} {s : Int → Int} {t : Int} {Q : Int → PH → Prop} {X : Nat → PH → Prop} {N : Int} (M : Mt b h0 h D s t) (W : WD D s N)  (H : ∀ (x : Int) h' D', (tL D = 0 → x = til D (-1) 200 0 s ∧ ∀ j, j ≠ 7 → D' j = D j) → (tL D ≠ 0 → D' = D) → Mt b h0 h' D' s (tL D) → Q x h') : RUN GQ (d + 10) m_X7_calmIn [pA b] h Q X := by
  obtain ⟨w1, w2, w3, wN, ws1, wI⟩ := id W
  have kL := tL_or D
  rw [e_X7_calmIn]
  refine WP.of (RUN.mono GQ _) (cuts := []) (n := 400) (v_X7_calmIn_0 _ _ _ _ ?_)
  refine ⟨M.k0, ?_⟩
  refine S_X7_notLoaded M W (fun x1 h1 e1 M1 => ?_)
  refine ⟨ir (by omega) (by omega), fun c4 => ?_, fun c4 => ?_⟩
  · obtain ⟨I, V, sw⟩ := wI (by omega)
    refine ⟨M1.k0, ?_⟩
    refine S_X7_ticksToIdle M1 I V (by omega) sw (by omega) (fun x13 h13 e13 M13 => ?_)
    subst e13
    first
    | (exfalso; omega)
    | (have hT : tL D ≠ 0 := by omega
       exact H _ _ D (fun z => absurd z hT) (fun _ => rfl) (M13.castT (by omega)))
    | (have hT : tL D = 0 := by omega
       refine H _ _ _ (fun _ => ⟨?_, fun j hj => aside_row D s hj⟩) (fun z => absurd hT z) (M13.castT (by omega))
       rfl)
  · first
    | (exfalso; omega)
    | (have hT : tL D ≠ 0 := by omega
       exact H _ _ D (fun z => absurd z hT) (fun _ => rfl) (M1.castT (by omega)))
    | (have hT : tL D = 0 := by omega
       refine H _ _ _ (fun _ => ⟨?_, fun j hj => aside_row D s hj⟩) (fun z => absurd hT z) (M1.castT (by omega))
       rfl)
theorem S_X7_endsIn {d b : Nat} {h0 h : PH} {D : Nat → Int → Int} {s : Int → Int} {t : Int} {Q : Int → PH → Prop} {X : Nat → PH → Prop} {N : Int} {u m : Int} (M : Mt b h0 h D s t) (W : WD D s N) (hvu : InR u) (hvm : InR m) (H : ∀ (x : Int) h' D', (ck (ck (tL D) u 0 (5) 2) m 0 (200) 2 = 0 → x = e_tks D m.toNat s (4 + u) - s (4 + u) ∧ ∀ j, j ≠ 7 → D' j = D j) → (ck (ck (tL D) u 0 (5) 2) m 0 (200) 2 ≠ 0 → D' = D) → Mt b h0 h' D' s (ck (ck (tL D) u 0 (5) 2) m 0 (200) 2) → Q x h') : RUN GQ (d + 11) m_X7_endsIn [pA b, pI u, pI m] h Q X := by
  obtain ⟨w1, w2, w3, wN, ws1, wI⟩ := id W
  have kL := tL_or D
  have k1 := ck_or (tL D) u 0 (5) 2
  have k2 := ck_or (ck (tL D) u 0 (5) 2) m 0 (200) 2
  rw [e_X7_endsIn]
  refine WP.of (RUN.mono GQ _) (cuts := []) (n := 400) (v_X7_endsIn_0 _ _ _ _ _ _ ?_)
  refine ⟨M.k0, ?_⟩
  refine S_X7_notLoaded M W (fun x1 h1 e1 M1 => ?_)
  refine ⟨ir (by omega) (by omega), fun c4 => ?_, fun c4 => ?_⟩
  · refine S_X7_inB (by omega) (by omega) (by omega) (fun x11 e11 => ?_)
    refine ⟨ir (by omega) (by omega), fun c14 => ?_, fun c14 => ?_⟩
    · refine ⟨M1.k0, ?_⟩
      refine S_X7_refuse M1 (by omega) (by omega) (by omega) (fun x34 h34 t34 e34 M34 => ?_)
      refine ⟨ir (by omega) (by omega), fun c37 => ?_, fun c37 => ?_⟩
      · obtain ⟨I, V, sw⟩ := wI (by omega)
        refine ⟨M34.k0, ?_⟩
        refine S_X7_moreOf M34 I V (by omega) sw (by omega) (by omega) (fun x49 h49 e49 M49 => ?_)
        subst e49
        first
        | (exfalso; omega)
        | (have hT : ck (ck (tL D) u 0 (5) 2) m 0 (200) 2 ≠ 0 := by omega
           exact H _ _ D (fun z => absurd z hT) (fun _ => rfl) (M49.castT (by omega)))
        | (have hT : ck (ck (tL D) u 0 (5) 2) m 0 (200) 2 = 0 := by omega
           refine H _ _ _ (fun _ => ⟨?_, fun j hj => aside_row D s hj⟩) (fun z => absurd hT z) (M49.castT (by omega))
           rfl)
      · first
        | (exfalso; omega)
        | (have hT : ck (ck (tL D) u 0 (5) 2) m 0 (200) 2 ≠ 0 := by omega
           exact H _ _ D (fun z => absurd z hT) (fun _ => rfl) (M34.castT (by omega)))
        | (have hT : ck (ck (tL D) u 0 (5) 2) m 0 (200) 2 = 0 := by omega
           refine H _ _ _ (fun _ => ⟨?_, fun j hj => aside_row D s hj⟩) (fun z => absurd hT z) (M34.castT (by omega))
           rfl)
    · refine S_X7_inB (by omega) (by omega) (by omega) (fun x22 e22 => ?_)
      refine ⟨ir (by omega) (by omega), fun c25 => ?_, fun c25 => ?_⟩
      · refine ⟨M1.k0, ?_⟩
        refine S_X7_refuse M1 (by omega) (by omega) (by omega) (fun x34 h34 t34 e34 M34 => ?_)
        refine ⟨ir (by omega) (by omega), fun c37 => ?_, fun c37 => ?_⟩
        · obtain ⟨I, V, sw⟩ := wI (by omega)
          refine ⟨M34.k0, ?_⟩
          refine S_X7_moreOf M34 I V (by omega) sw (by omega) (by omega) (fun x49 h49 e49 M49 => ?_)
          subst e49
          first
          | (exfalso; omega)
          | (have hT : ck (ck (tL D) u 0 (5) 2) m 0 (200) 2 ≠ 0 := by omega
             exact H _ _ D (fun z => absurd z hT) (fun _ => rfl) (M49.castT (by omega)))
          | (have hT : ck (ck (tL D) u 0 (5) 2) m 0 (200) 2 = 0 := by omega
             refine H _ _ _ (fun _ => ⟨?_, fun j hj => aside_row D s hj⟩) (fun z => absurd hT z) (M49.castT (by omega))
             rfl)
        · first
          | (exfalso; omega)
          | (have hT : ck (ck (tL D) u 0 (5) 2) m 0 (200) 2 ≠ 0 := by omega
             exact H _ _ D (fun z => absurd z hT) (fun _ => rfl) (M34.castT (by omega)))
          | (have hT : ck (ck (tL D) u 0 (5) 2) m 0 (200) 2 = 0 := by omega
             refine H _ _ _ (fun _ => ⟨?_, fun j hj => aside_row D s hj⟩) (fun z => absurd hT z) (M34.castT (by omega))
             rfl)
      · refine ⟨M1.k0, ?_⟩
        refine S_X7_refuse M1 (by omega) (by omega) (by omega) (fun x34 h34 t34 e34 M34 => ?_)
        refine ⟨ir (by omega) (by omega), fun c37 => ?_, fun c37 => ?_⟩
        · obtain ⟨I, V, sw⟩ := wI (by omega)
          refine ⟨M34.k0, ?_⟩
          refine S_X7_moreOf M34 I V (by omega) sw (by omega) (by omega) (fun x49 h49 e49 M49 => ?_)
          subst e49
          first
          | (exfalso; omega)
          | (have hT : ck (ck (tL D) u 0 (5) 2) m 0 (200) 2 ≠ 0 := by omega
             exact H _ _ D (fun z => absurd z hT) (fun _ => rfl) (M49.castT (by omega)))
          | (have hT : ck (ck (tL D) u 0 (5) 2) m 0 (200) 2 = 0 := by omega
             refine H _ _ _ (fun _ => ⟨?_, fun j hj => aside_row D s hj⟩) (fun z => absurd hT z) (M49.castT (by omega))
             rfl)
        · first
          | (exfalso; omega)
          | (have hT : ck (ck (tL D) u 0 (5) 2) m 0 (200) 2 ≠ 0 := by omega
             exact H _ _ D (fun z => absurd z hT) (fun _ => rfl) (M34.castT (by omega)))
          | (have hT : ck (ck (tL D) u 0 (5) 2) m 0 (200) 2 = 0 := by omega
             refine H _ _ _ (fun _ => ⟨?_, fun j hj => aside_row D s hj⟩) (fun z => absurd hT z) (M34.castT (by omega))
             rfl)
  · first
    | (exfalso; omega)
    | (have hT : ck (ck (tL D) u 0 (5) 2) m 0 (200) 2 ≠ 0 := by omega
       exact H _ _ D (fun z => absurd z hT) (fun _ => rfl) (M1.castT (by omega)))
    | (have hT : ck (ck (tL D) u 0 (5) 2) m 0 (200) 2 = 0 := by omega
       refine H _ _ _ (fun _ => ⟨?_, fun j hj => aside_row D s hj⟩) (fun z => absurd hT z) (M1.castT (by omega))
       rfl)
theorem S_X7_sentIn {d b : Nat} {h0 h : PH} {D : Nat → Int → Int} {s : Int → Int} {t : Int} {Q : Int → PH → Prop} {X : Nat → PH → Prop} {N : Int} {m : Int} (M : Mt b h0 h D s t) (W : WD D s N) (hvm : InR m) (H : ∀ (x : Int) h' D', (ck (tL D) m 0 (200) 2 = 0 → x = e_tks D m.toNat s 1 - s 1 ∧ ∀ j, j ≠ 7 → D' j = D j) → (ck (tL D) m 0 (200) 2 ≠ 0 → D' = D) → Mt b h0 h' D' s (ck (tL D) m 0 (200) 2) → Q x h') : RUN GQ (d + 11) m_X7_sentIn [pA b, pI m] h Q X := by
  obtain ⟨w1, w2, w3, wN, ws1, wI⟩ := id W
  have kL := tL_or D
  have k1 := ck_or (tL D) m 0 (200) 2
  rw [e_X7_sentIn]
  refine WP.of (RUN.mono GQ _) (cuts := []) (n := 400) (v_X7_sentIn_0 _ _ _ _ _ ?_)
  refine ⟨M.k0, ?_⟩
  refine S_X7_notLoaded M W (fun x1 h1 e1 M1 => ?_)
  refine ⟨ir (by omega) (by omega), fun c4 => ?_, fun c4 => ?_⟩
  · refine S_X7_inB (by omega) (by omega) (by omega) (fun x13 e13 => ?_)
    refine ⟨ir (by omega) (by omega), fun c16 => ?_, fun c16 => ?_⟩
    · refine ⟨M1.k0, ?_⟩
      refine S_X7_refuse M1 (by omega) (by omega) (by omega) (fun x25 h25 t25 e25 M25 => ?_)
      refine ⟨ir (by omega) (by omega), fun c28 => ?_, fun c28 => ?_⟩
      · obtain ⟨I, V, sw⟩ := wI (by omega)
        refine ⟨M25.k0, ?_⟩
        refine S_X7_moreOf M25 I V (by omega) sw (by omega) (by omega) (fun x38 h38 e38 M38 => ?_)
        subst e38
        first
        | (exfalso; omega)
        | (have hT : ck (tL D) m 0 (200) 2 ≠ 0 := by omega
           exact H _ _ D (fun z => absurd z hT) (fun _ => rfl) (M38.castT (by omega)))
        | (have hT : ck (tL D) m 0 (200) 2 = 0 := by omega
           refine H _ _ _ (fun _ => ⟨?_, fun j hj => aside_row D s hj⟩) (fun z => absurd hT z) (M38.castT (by omega))
           rfl)
      · first
        | (exfalso; omega)
        | (have hT : ck (tL D) m 0 (200) 2 ≠ 0 := by omega
           exact H _ _ D (fun z => absurd z hT) (fun _ => rfl) (M25.castT (by omega)))
        | (have hT : ck (tL D) m 0 (200) 2 = 0 := by omega
           refine H _ _ _ (fun _ => ⟨?_, fun j hj => aside_row D s hj⟩) (fun z => absurd hT z) (M25.castT (by omega))
           rfl)
    · refine ⟨M1.k0, ?_⟩
      refine S_X7_refuse M1 (by omega) (by omega) (by omega) (fun x25 h25 t25 e25 M25 => ?_)
      refine ⟨ir (by omega) (by omega), fun c28 => ?_, fun c28 => ?_⟩
      · obtain ⟨I, V, sw⟩ := wI (by omega)
        refine ⟨M25.k0, ?_⟩
        refine S_X7_moreOf M25 I V (by omega) sw (by omega) (by omega) (fun x38 h38 e38 M38 => ?_)
        subst e38
        first
        | (exfalso; omega)
        | (have hT : ck (tL D) m 0 (200) 2 ≠ 0 := by omega
           exact H _ _ D (fun z => absurd z hT) (fun _ => rfl) (M38.castT (by omega)))
        | (have hT : ck (tL D) m 0 (200) 2 = 0 := by omega
           refine H _ _ _ (fun _ => ⟨?_, fun j hj => aside_row D s hj⟩) (fun z => absurd hT z) (M38.castT (by omega))
           rfl)
      · first
        | (exfalso; omega)
        | (have hT : ck (tL D) m 0 (200) 2 ≠ 0 := by omega
           exact H _ _ D (fun z => absurd z hT) (fun _ => rfl) (M25.castT (by omega)))
        | (have hT : ck (tL D) m 0 (200) 2 = 0 := by omega
           refine H _ _ _ (fun _ => ⟨?_, fun j hj => aside_row D s hj⟩) (fun z => absurd hT z) (M25.castT (by omega))
           rfl)
  · first
    | (exfalso; omega)
    | (have hT : ck (tL D) m 0 (200) 2 ≠ 0 := by omega
       exact H _ _ D (fun z => absurd z hT) (fun _ => rfl) (M1.castT (by omega)))
    | (have hT : ck (tL D) m 0 (200) 2 = 0 := by omega
       refine H _ _ _ (fun _ => ⟨?_, fun j hj => aside_row D s hj⟩) (fun z => absurd hT z) (M1.castT (by omega))
       rfl)
theorem S_X7_urgencyIn {d b : Nat} {h0 h : PH} {D : Nat → Int → Int} {s : Int → Int} {t : Int} {Q : Int → PH → Prop} {X : Nat → PH → Prop} {N : Int} {p k m : Int} (M : Mt b h0 h D s t) (W : WD D s N) (hvp : InR p) (hvk : InR k) (hvm : InR m) (H : ∀ (x : Int) h' D', (ck (ck (ck (tL D) p 0 (D 0 4 - 1) 2) k 0 (D 0 3 - 1) 2) m 0 (200) 3 = 0 → x = ur (e_tks D m.toNat s) p k ∧ ∀ j, j ≠ 7 → D' j = D j) → (ck (ck (ck (tL D) p 0 (D 0 4 - 1) 2) k 0 (D 0 3 - 1) 2) m 0 (200) 3 ≠ 0 → D' = D) → Mt b h0 h' D' s (ck (ck (ck (tL D) p 0 (D 0 4 - 1) 2) k 0 (D 0 3 - 1) 2) m 0 (200) 3) → Q x h') : RUN GQ (d + 10) m_X7_urgencyIn [pA b, pI p, pI k, pI m] h Q X := by
  obtain ⟨w1, w2, w3, wN, ws1, wI⟩ := id W
  have kL := tL_or D
  have k1 := ck_or (tL D) p 0 (D 0 4 - 1) 2
  have k2 := ck_or (ck (tL D) p 0 (D 0 4 - 1) 2) k 0 (D 0 3 - 1) 2
  have k3 := ck_or (ck (ck (tL D) p 0 (D 0 4 - 1) 2) k 0 (D 0 3 - 1) 2) m 0 (200) 3
  rw [e_X7_urgencyIn]
  refine WP.of (RUN.mono GQ _) (cuts := []) (n := 400) (v_X7_urgencyIn_0 _ _ _ _ _ _ _ _ ?_)
  refine ⟨M.k0, ?_⟩
  refine S_X7_noPair M W (by omega) (by omega) (fun x3 h3 e3 M3 => ?_)
  refine ⟨ir (by omega) (by omega), fun c6 => ?_, fun c6 => ?_⟩
  · refine S_X7_inB (by omega) (by omega) (by omega) (fun x15 e15 => ?_)
    refine ⟨ir (by omega) (by omega), fun c18 => ?_, fun c18 => ?_⟩
    · refine ⟨M3.k0, ?_⟩
      refine S_X7_refuse M3 (by omega) (by omega) (by omega) (fun x27 h27 t27 e27 M27 => ?_)
      refine ⟨ir (by omega) (by omega), fun c30 => ?_, fun c30 => ?_⟩
      · obtain ⟨I, V, sw⟩ := wI (by omega)
        refine ⟨M27.k0, ?_⟩
        refine S_X7_putsAside M27 (fun x36 h36 e36 M36 => ?_)
        subst e36
        have q := aside_D D s
        have I2 := HI.eqD q I
        have V2 := V.eq q
        refine ⟨M36.k0, ?_⟩
        refine S_X7_goesTicks_t M36 I2 V2 (by omega) (by omega) (fun x41 h41 e41 M41 => ?_)
        subst e41
        have N41 := Mt.cast (s' := e_tks D m.toNat s) M41 (tks_D q _ _).symm
        have I4 := tks_HI V rfl rfl m.toNat _ _ I
        have uu := I4.ur (p := p) (k := k) ⟨by omega, by omega⟩ ⟨by omega, by omega⟩
        refine ⟨N41.k0, ?_⟩
        refine S_X7_urgencyOf N41 (by omega) (by omega) (by exact uu.2) (fun x47 e47 => ?_)
        subst e47
        refine ⟨N41.k0, ?_⟩
        refine S_X7_fetchesBack N41 (fun x53 h53 e53 M53 => ?_)
        subst e53
        have N53 := Mt.cast (s' := s) M53 (back_eq (fun e he => tks_out he V rfl rfl _ _ _ I (fun _ => sw)) (fun e a b => aside_at D s a b)).symm
        first
        | (exfalso; omega)
        | (have hT : ck (ck (ck (tL D) p 0 (D 0 4 - 1) 2) k 0 (D 0 3 - 1) 2) m 0 (200) 3 ≠ 0 := by omega
           exact H _ _ D (fun z => absurd z hT) (fun _ => rfl) (N53.castT (by omega)))
        | (have hT : ck (ck (ck (tL D) p 0 (D 0 4 - 1) 2) k 0 (D 0 3 - 1) 2) m 0 (200) 3 = 0 := by omega
           refine H _ _ _ (fun _ => ⟨?_, fun j hj => aside_row D s hj⟩) (fun z => absurd hT z) (N53.castT (by omega))
           rfl)
      · first
        | (exfalso; omega)
        | (have hT : ck (ck (ck (tL D) p 0 (D 0 4 - 1) 2) k 0 (D 0 3 - 1) 2) m 0 (200) 3 ≠ 0 := by omega
           exact H _ _ D (fun z => absurd z hT) (fun _ => rfl) (M27.castT (by omega)))
        | (have hT : ck (ck (ck (tL D) p 0 (D 0 4 - 1) 2) k 0 (D 0 3 - 1) 2) m 0 (200) 3 = 0 := by omega
           refine H _ _ _ (fun _ => ⟨?_, fun j hj => aside_row D s hj⟩) (fun z => absurd hT z) (M27.castT (by omega))
           rfl)
    · refine ⟨M3.k0, ?_⟩
      refine S_X7_refuse M3 (by omega) (by omega) (by omega) (fun x27 h27 t27 e27 M27 => ?_)
      refine ⟨ir (by omega) (by omega), fun c30 => ?_, fun c30 => ?_⟩
      · obtain ⟨I, V, sw⟩ := wI (by omega)
        refine ⟨M27.k0, ?_⟩
        refine S_X7_putsAside M27 (fun x36 h36 e36 M36 => ?_)
        subst e36
        have q := aside_D D s
        have I2 := HI.eqD q I
        have V2 := V.eq q
        refine ⟨M36.k0, ?_⟩
        refine S_X7_goesTicks_t M36 I2 V2 (by omega) (by omega) (fun x41 h41 e41 M41 => ?_)
        subst e41
        have N41 := Mt.cast (s' := e_tks D m.toNat s) M41 (tks_D q _ _).symm
        have I4 := tks_HI V rfl rfl m.toNat _ _ I
        have uu := I4.ur (p := p) (k := k) ⟨by omega, by omega⟩ ⟨by omega, by omega⟩
        refine ⟨N41.k0, ?_⟩
        refine S_X7_urgencyOf N41 (by omega) (by omega) (by exact uu.2) (fun x47 e47 => ?_)
        subst e47
        refine ⟨N41.k0, ?_⟩
        refine S_X7_fetchesBack N41 (fun x53 h53 e53 M53 => ?_)
        subst e53
        have N53 := Mt.cast (s' := s) M53 (back_eq (fun e he => tks_out he V rfl rfl _ _ _ I (fun _ => sw)) (fun e a b => aside_at D s a b)).symm
        first
        | (exfalso; omega)
        | (have hT : ck (ck (ck (tL D) p 0 (D 0 4 - 1) 2) k 0 (D 0 3 - 1) 2) m 0 (200) 3 ≠ 0 := by omega
           exact H _ _ D (fun z => absurd z hT) (fun _ => rfl) (N53.castT (by omega)))
        | (have hT : ck (ck (ck (tL D) p 0 (D 0 4 - 1) 2) k 0 (D 0 3 - 1) 2) m 0 (200) 3 = 0 := by omega
           refine H _ _ _ (fun _ => ⟨?_, fun j hj => aside_row D s hj⟩) (fun z => absurd hT z) (N53.castT (by omega))
           rfl)
      · first
        | (exfalso; omega)
        | (have hT : ck (ck (ck (tL D) p 0 (D 0 4 - 1) 2) k 0 (D 0 3 - 1) 2) m 0 (200) 3 ≠ 0 := by omega
           exact H _ _ D (fun z => absurd z hT) (fun _ => rfl) (M27.castT (by omega)))
        | (have hT : ck (ck (ck (tL D) p 0 (D 0 4 - 1) 2) k 0 (D 0 3 - 1) 2) m 0 (200) 3 = 0 := by omega
           refine H _ _ _ (fun _ => ⟨?_, fun j hj => aside_row D s hj⟩) (fun z => absurd hT z) (M27.castT (by omega))
           rfl)
  · first
    | (exfalso; omega)
    | (have hT : ck (ck (ck (tL D) p 0 (D 0 4 - 1) 2) k 0 (D 0 3 - 1) 2) m 0 (200) 3 ≠ 0 := by omega
       exact H _ _ D (fun z => absurd z hT) (fun _ => rfl) (M3.castT (by omega)))
    | (have hT : ck (ck (ck (tL D) p 0 (D 0 4 - 1) 2) k 0 (D 0 3 - 1) 2) m 0 (200) 3 = 0 := by omega
       refine H _ _ _ (fun _ => ⟨?_, fun j hj => aside_row D s hj⟩) (fun z => absurd hT z) (M3.castT (by omega))
       rfl)
theorem L_X7_ticksToEnd_32 {d b : Nat} {h0 : PH} {D : Nat → Int → Int} {t : Int} {Q : Int → PH → Prop} {X : Nat → PH → Prop} {g : Int} {s0 : Int → Int} (V : PIv D) (hr0 : ∀ e, 0 ≤ e → e < 861 → D 7 e = s0 e) (hw0 : s0 (-1) = -1) : ∀ (n : Nat) (k : Int) (s : Int → Int) (h : PH) (N : Int), (Mt b h0 h D s t) → (HI (D 0 3) (D 0 4) (D 0 2) N s) → (0 ≤ k) → (k + n = 200) → (N + 481 * n ≤ 1998000000) → (∀ e, (e < 0 ∨ 861 ≤ e) → e ≠ -1 → e ≠ -2 → s e = s0 e) → (∀ (x : Int) h', x = (if teE D n s = -1 then -1 else teN D n k s) → Mt b h0 h' D (ups s0 (-2) (teE D n s)) t → Q x h') → WP k_X7_ticksToEnd [] (RUN GQ (d + 8)) 0 0 (d + 9) Q X 32 [some (pA b), some (pI g), some (pI k)] [] h 0 0 := by
  intro n
  induction n with
  | zero =>
    intro k s h N M I hk0 hn0 hN ho H
    obtain ⟨v2, v3, v4, vh⟩ := id V
    have ho5 := I.ho
    unfold HIo at ho5
    refine WP.of (RUN.mono GQ _) (cuts := [32]) (n := 400) (v_X7_ticksToEnd_32 _ _ _ _ _ _ ?_)
    refine ⟨ir (by omega) (by omega), ir (by omega) (by omega), fun c36 => ?_, fun c36 => ?_⟩
    · exfalso; omega
    · refine M.p43 (fun h59 M59 => ?_)
      refine ⟨M59.k0, ?_⟩
      refine S_X7_fetchesBack M59 (fun x63 h63 e63 M63 => ?_)
      subst e63
      have N63 := Mt.cast (s' := ups s0 (-2) (s (-2))) M63 (back_we ho hr0 hw0).symm
      refine ⟨N63.k0, ?_⟩
      try rw [N63.f44]
      try rw [ups_eq]
      refine ⟨ir (by omega) (by omega), ir (by omega) (by omega), fun c71 => ?_, fun c71 => ?_⟩
      · first
        | (exfalso; omega)
        | (have e1 : teE D 0 s = s (-2) := rfl
           have e2 : teN D 0 k s = k := rfl
           rw [e1, e2] at H
           first
           | (rw [if_pos (by omega)] at H; exact H _ _ rfl N63)
           | (rw [if_neg (by omega)] at H; exact H _ _ rfl N63))
        | (rw [teE, teN, if_neg c44, if_neg c44] at H
           first
           | (rw [if_pos (by omega)] at H; exact H _ _ rfl N63)
           | (rw [if_neg (by omega)] at H; exact H _ _ rfl N63))
      · first
        | (exfalso; omega)
        | (have e1 : teE D 0 s = s (-2) := rfl
           have e2 : teN D 0 k s = k := rfl
           rw [e1, e2] at H
           first
           | (rw [if_pos (by omega)] at H; exact H _ _ rfl N63)
           | (rw [if_neg (by omega)] at H; exact H _ _ rfl N63))
        | (rw [teE, teN, if_neg c44, if_neg c44] at H
           first
           | (rw [if_pos (by omega)] at H; exact H _ _ rfl N63)
           | (rw [if_neg (by omega)] at H; exact H _ _ rfl N63))
  | succ n ih =>
    intro k s h N M I hk0 hn0 hN ho H
    obtain ⟨v2, v3, v4, vh⟩ := id V
    have ho5 := I.ho
    unfold HIo at ho5
    refine WP.of (RUN.mono GQ _) (cuts := [32]) (n := 400) (v_X7_ticksToEnd_32 _ _ _ _ _ _ ?_)
    refine ⟨ir (by omega) (by omega), ir (by omega) (by omega), fun c36 => ?_, fun c36 => ?_⟩
    · refine ⟨M.k0, ?_⟩
      try rw [M.f44]
      refine ⟨ir (by omega) (by omega), ir (by omega) (by omega), fun c44 => ?_, fun c44 => ?_⟩
      · refine ⟨M.k0, ?_⟩
        refine S_X7_ticksOnce_t M I V (by omega) (fun x48 h48 e48 M48 => ?_)
        subst e48
        have I22 := tick_HI I V rfl rfl
        refine ih _ _ _ _ M48 I22 (by omega) (by omega) (by omega) (by exact fun e he a b => (tick_out he (fun z => absurd z b) I V rfl rfl).trans (ho e he a b)) ?_
        rw [teE, teN, if_pos c44, if_pos c44] at H
        exact H
      · refine M.p43 (fun h59 M59 => ?_)
        refine ⟨M59.k0, ?_⟩
        refine S_X7_fetchesBack M59 (fun x63 h63 e63 M63 => ?_)
        subst e63
        have N63 := Mt.cast (s' := ups s0 (-2) (s (-2))) M63 (back_we ho hr0 hw0).symm
        refine ⟨N63.k0, ?_⟩
        try rw [N63.f44]
        try rw [ups_eq]
        refine ⟨ir (by omega) (by omega), ir (by omega) (by omega), fun c71 => ?_, fun c71 => ?_⟩
        · first
          | (exfalso; omega)
          | (have e1 : teE D 0 s = s (-2) := rfl
             have e2 : teN D 0 k s = k := rfl
             rw [e1, e2] at H
             first
             | (rw [if_pos (by omega)] at H; exact H _ _ rfl N63)
             | (rw [if_neg (by omega)] at H; exact H _ _ rfl N63))
          | (rw [teE, teN, if_neg c44, if_neg c44] at H
             first
             | (rw [if_pos (by omega)] at H; exact H _ _ rfl N63)
             | (rw [if_neg (by omega)] at H; exact H _ _ rfl N63))
        · first
          | (exfalso; omega)
          | (have e1 : teE D 0 s = s (-2) := rfl
             have e2 : teN D 0 k s = k := rfl
             rw [e1, e2] at H
             first
             | (rw [if_pos (by omega)] at H; exact H _ _ rfl N63)
             | (rw [if_neg (by omega)] at H; exact H _ _ rfl N63))
          | (rw [teE, teN, if_neg c44, if_neg c44] at H
             first
             | (rw [if_pos (by omega)] at H; exact H _ _ rfl N63)
             | (rw [if_neg (by omega)] at H; exact H _ _ rfl N63))
    · exfalso; omega
theorem S_X7_ticksToEnd {d b : Nat} {h0 h : PH} {D : Nat → Int → Int} {s : Int → Int} {t : Int} {Q : Int → PH → Prop} {X : Nat → PH → Prop} {N : Int} {g : Int} (M : Mt b h0 h D s t) (I : HI (D 0 3) (D 0 4) (D 0 2) N s) (V : PIv D) (hN : N ≤ 1990000000) (hw : s (-1) = -1) (hg : InR g) (H : ∀ (x : Int) h' D', x = eiv D s g → (∀ j, j ≠ 7 → D' j = D j) → Mt b h0 h' D' (ups s (-2) (eov D s g)) t → Q x h') : RUN GQ (d + 9) m_X7_ticksToEnd [pA b, pI g] h Q X := by
  obtain ⟨v2, v3, v4, vh⟩ := id V
  rw [e_X7_ticksToEnd]
  refine WP.of (RUN.mono GQ _) (cuts := [32]) (n := 400) (v_X7_ticksToEnd_0 _ _ _ _ _ _ ?_)
  refine ⟨M.k0, ?_⟩
  refine S_X7_placeNow M I (by omega) (by omega) (by omega) (fun x2 e2 => ?_)
  subst e2
  have pr := pnl_rng (s := s) (g := g) (D 0 4).toNat 0 (by omega)
  refine ⟨ir (by omega) (by omega), ir (by omega) (by omega), fun c6 => ?_, fun c6 => ?_⟩
  · refine M.p44 (fun h11 M11 => ?_)
    have ev : eov D s g = -1 := by rw [eov, if_pos c6]
    refine H _ _ _ ?_ (fun j _ => rfl) (M11.cast (by rw [ev]))
    unfold eiv; rw [ev, if_pos rfl]
  · refine ⟨M.k0, ?_⟩
    refine S_X7_putsAside M (fun x17 h17 e17 M17 => ?_)
    subst e17
    have q := aside_D D s
    have I2 := HI.eqD q I
    have V2 := V.eq q
    refine M17.p43 (fun h22 M22 => ?_)
    refine M22.p44 (fun h27 M27 => ?_)
    have N27 := Mt.cast (s' := wat s g) M27 rfl
    have I27 := watEq I2 (by rw [q.2.1]; omega) (by rw [q.2.2.1]; omega) hg
    refine L_X7_ticksToEnd_32 V2 (fun e a b => aside_at D s a b) hw (200) _ _ _ _ N27 I27 (by omega) (by omega) (by omega) (by exact fun e _ a b => wat_out a b) ?_
    have ev : eov D s g = teE D 200 (wat s g) := by rw [eov, if_neg c6]
    refine fun x h' e M => H x h' _ (e.trans ?_) (fun j hj => aside_row D s hj) (M.cast ?_)
    · unfold eiv; rw [ev, teE_D q, teN_D q]
    · rw [ev, teE_D q]
theorem S_X7_endIn {d b : Nat} {h0 h : PH} {D : Nat → Int → Int} {s : Int → Int} {t : Int} {Q : Int → PH → Prop} {X : Nat → PH → Prop} {N : Int} {g : Int} (M : Mt b h0 h D s t) (W : WD D s N) (hvg : InR g) (H : ∀ (x : Int) h' D' s', (ck (tL D) g 0 (s 1 - 1) 2 = 0 → x = eiv D s g ∧ (∀ j, j ≠ 7 → D' j = D j) ∧ s' = ups s (-2) (eov D s g)) → (ck (tL D) g 0 (s 1 - 1) 2 ≠ 0 → D' = D ∧ s' = s) → Mt b h0 h' D' s' (ck (tL D) g 0 (s 1 - 1) 2) → Q x h') : RUN GQ (d + 10) m_X7_endIn [pA b, pI g] h Q X := by
  obtain ⟨w1, w2, w3, wN, ws1, wI⟩ := id W
  have kL := tL_or D
  have k1 := ck_or (tL D) g 0 (s 1 - 1) 2
  rw [e_X7_endIn]
  refine WP.of (RUN.mono GQ _) (cuts := []) (n := 400) (v_X7_endIn_0 _ _ _ _ _ ?_)
  refine ⟨M.k0, ?_⟩
  refine S_X7_noSignal M W (by omega) (fun x2 h2 e2 M2 => ?_)
  refine ⟨ir (by omega) (by omega), fun c5 => ?_, fun c5 => ?_⟩
  · obtain ⟨I, V, sw⟩ := wI (by omega)
    refine ⟨M2.k0, ?_⟩
    refine S_X7_ticksToEnd M2 I V (by omega) sw (by omega) (fun x14 h14 D14 e14 q14 M14 => ?_)
    subst e14
    first
    | (exfalso; omega)
    | (have hT : ck (tL D) g 0 (s 1 - 1) 2 ≠ 0 := by omega
       exact H _ _ D s (fun z => absurd z hT) (fun _ => ⟨rfl, rfl⟩) (M14.castT (by omega)))
    | (have hT : ck (tL D) g 0 (s 1 - 1) 2 = 0 := by omega
       exact H _ _ _ _ (fun _ => ⟨rfl, q14, rfl⟩) (fun z => absurd hT z) (M14.castT (by omega)))
  · first
    | (exfalso; omega)
    | (have hT : ck (tL D) g 0 (s 1 - 1) 2 ≠ 0 := by omega
       exact H _ _ D s (fun z => absurd z hT) (fun _ => ⟨rfl, rfl⟩) (M2.castT (by omega)))
    | (have hT : ck (tL D) g 0 (s 1 - 1) 2 = 0 := by omega
       exact H _ _ _ _ (fun _ => ⟨rfl, q14, rfl⟩) (fun z => absurd hT z) (M2.castT (by omega)))
theorem S_X7_endOf {d b : Nat} {h0 h : PH} {D : Nat → Int → Int} {s : Int → Int} {t : Int} {Q : Int → PH → Prop} {X : Nat → PH → Prop} {N : Int} {g : Int} (M : Mt b h0 h D s t) (W : WD D s N) (hvg : InR g) (H : ∀ (x : Int) h' D' s', (ck (tL D) g 0 (s 1 - 1) 2 = 0 → x = eov D s g ∧ (∀ j, j ≠ 7 → D' j = D j) ∧ s' = ups s (-2) (eov D s g)) → (ck (tL D) g 0 (s 1 - 1) 2 ≠ 0 → D' = D ∧ s' = s) → Mt b h0 h' D' s' (ck (tL D) g 0 (s 1 - 1) 2) → Q x h') : RUN GQ (d + 10) m_X7_endOf [pA b, pI g] h Q X := by
  obtain ⟨w1, w2, w3, wN, ws1, wI⟩ := id W
  have kL := tL_or D
  have k1 := ck_or (tL D) g 0 (s 1 - 1) 2
  rw [e_X7_endOf]
  refine WP.of (RUN.mono GQ _) (cuts := []) (n := 400) (v_X7_endOf_0 _ _ _ _ _ _ ?_)
  refine ⟨M.k0, ?_⟩
  refine S_X7_noSignal M W (by omega) (fun x2 h2 e2 M2 => ?_)
  refine ⟨ir (by omega) (by omega), fun c5 => ?_, fun c5 => ?_⟩
  · obtain ⟨I, V, sw⟩ := wI (by omega)
    have er := eov_rng I V hvg
    refine ⟨M2.k0, ?_⟩
    refine S_X7_ticksToEnd M2 I V (by omega) sw (by omega) (fun x12 h12 D12 e12 q12 M12 => ?_)
    subst e12
    refine ⟨M12.k0, ?_⟩
    try rw [M12.f44]
    try rw [ups_eq]
    first
    | (exfalso; omega)
    | (have hT : ck (tL D) g 0 (s 1 - 1) 2 ≠ 0 := by omega
       exact H _ _ D s (fun z => absurd z hT) (fun _ => ⟨rfl, rfl⟩) (M12.castT (by omega)))
    | (have hT : ck (tL D) g 0 (s 1 - 1) 2 = 0 := by omega
       exact H _ _ _ _ (fun _ => ⟨rfl, q12, rfl⟩) (fun z => absurd hT z) (M12.castT (by omega)))
  · first
    | (exfalso; omega)
    | (have hT : ck (tL D) g 0 (s 1 - 1) 2 ≠ 0 := by omega
       exact H _ _ D s (fun z => absurd z hT) (fun _ => ⟨rfl, rfl⟩) (M2.castT (by omega)))
    | (have hT : ck (tL D) g 0 (s 1 - 1) 2 = 0 := by omega
       exact H _ _ _ _ (fun _ => ⟨rfl, q12, rfl⟩) (fun z => absurd hT z) (M2.castT (by omega)))
theorem L_X7_bestMask_28 {d b : Nat} {h0 : PH} {s : Int → Int} {t : Int} {Q : Int → PH → Prop} {X : Nat → PH → Prop} {N : Int} {p : Int} {was : Int} {E : Nat → Int → Int} (I : HI (E 0 3) (E 0 4) (E 0 2) N s) (V : PIv E) (hN : N ≤ 1990000000) (sw : s (-1) = -1) (hp : 0 ≤ p ∧ p < 6) (hwas : was = s (85 + p)) : ∀ (n : Nat) (best least k : Int) (z6 : Option PV) (D : Nat → Int → Int) (h : PH), (Mt b h0 h D s t) → (0 ≤ k) → (k + n = E 0 3) → (-1 ≤ best ∧ best < 8) → (InR least) → (∀ j, j ≠ 7 → D j = E j) → (∀ (x : Int) h' D', x = bml E s p n k best least → (∀ j, j ≠ 7 → D' j = E j) → Mt b h0 h' D' s t → Q x h') → WP k_X7_bestMask [] (RUN GQ (d + 10)) 0 0 (d + 11) Q X 28 [some (pA b), some (pI p), some (pI best), some (pI least), some (pI was), some (pI k), z6] [] h 0 0 := by
  intro n
  induction n with
  | zero =>
    intro best least k z6 D h M hk0 hn0 hbest hleast hD H
    obtain ⟨v2, v3, v4, vh⟩ := id V
    subst hwas
    have d3 := congrFun (hD 0 (by decide)) 3
    have hm := I.hm p hp.1 hp.2
    refine WP.of (RUN.mono GQ _) (cuts := [28]) (n := 400) (v_X7_bestMask_28 _ _ _ _ _ _ _ _ _ _ ?_)
    refine ⟨M.k0, ?_⟩
    try rw [M.f3]
    refine ⟨ir (by omega) (by omega), ir (by omega) (by omega), fun c34 => ?_, fun c34 => ?_⟩
    · exfalso; omega
    · first
      | (exfalso; omega)
      | exact H _ _ _ rfl hD M
  | succ n ih =>
    intro best least k z6 D h M hk0 hn0 hbest hleast hD H
    obtain ⟨v2, v3, v4, vh⟩ := id V
    subst hwas
    have d3 := congrFun (hD 0 (by decide)) 3
    have hm := I.hm p hp.1 hp.2
    refine WP.of (RUN.mono GQ _) (cuts := [28]) (n := 400) (v_X7_bestMask_28 _ _ _ _ _ _ _ _ _ _ ?_)
    refine ⟨M.k0, ?_⟩
    try rw [M.f3]
    refine ⟨ir (by omega) (by omega), ir (by omega) (by omega), fun c34 => ?_, fun c34 => ?_⟩
    · have q := DEq.of7 hD
      have I2 := HI.eqD q I
      have V2 := V.eq q
      have m01 := msk_01 (s := s) p k
      refine ⟨M.k0, ?_⟩
      refine S_X7_isMasked M (by omega) (fun x41 e41 => ?_)
      subst e41
      refine ⟨ir (by omega) (by omega), fun c44 => ?_, fun c44 => ?_⟩
      · refine ⟨M.k0, ?_⟩
        try rw [M.r11]
        refine M.as6 (by omega) (by omega) (fun h65 M65 => ?_)
        have N65 := Mt.cast (s' := bmm s p k) M65 rfl
        have m3 := msk_HI I2 (p := p) (m := bor (s (85 + p)) (bshl 1 k)) (by rw [q.2.1]; omega) (by rw [q.2.2.1]; omega) (by omega) (bor_InR _ _)
        have m4 : 0 ≤ e_tks E 50 (bmm s p k) (91 + 4 * p + 3) ∧ e_tks E 50 (bmm s p k) (91 + 4 * p + 3) ≤ N + 481 * (50 : Nat) := by (have z := (tks_HI V2 rfl rfl 50 _ _ m3).hc (91 + 4 * p + 3) (Or.inr (Or.inr ⟨by omega, by omega⟩)); rw [tks_D q] at z; exact z)
        have m5 := I.hc (91 + 4 * p + 3) (Or.inr (Or.inr ⟨by omega, by omega⟩))
        refine ⟨N65.k0, ?_⟩
        refine S_X7_moreOf N65 m3 V2 (by omega) ((bmm_ne (by omega)).trans sw) (by omega) (by omega) (fun x77 h77 e77 M77 => ?_)
        rw [bmm_ne (by omega), show (50 : Int).toNat = 50 from rfl, tks_D q] at e77
        refine ⟨M77.k0, ?_⟩
        try rw [M77.r11]
        refine M77.as6 (by omega) (by omega) (fun h92 M92 => ?_)
        have hD2 : ∀ j, j ≠ 7 → dcp 7 0 (bmm s p k) 861 0 D j = E j := fun j hj => (aside_row D (bmm s p k) hj).trans (hD j hj)
        have N92 := Mt.cast (s' := s) M92 (bmm_back s p k).symm
        refine ⟨ir (by omega) (by omega), ir (by omega) (by omega), fun c95 => ?_, fun c95 => ?_⟩
        · refine ih _ _ _ _ _ _ N92 (by omega) (by omega) (by omega) (by omega) (by first | exact hD2 | exact hD) ?_
          rw [bml] at H
          try rw [← e77] at H
          first
          | (rw [if_neg c44] at H; exact H)
          | (rw [if_pos c44, if_pos (by omega)] at H; exact H)
          | (rw [if_pos c44, if_neg (by omega)] at H; exact H)
        · refine ⟨ir (by omega) (by omega), ir (by omega) (by omega), fun c101 => ?_, fun c101 => ?_⟩
          · refine ih _ _ _ _ _ _ N92 (by omega) (by omega) (by omega) (by omega) (by first | exact hD2 | exact hD) ?_
            rw [bml] at H
            try rw [← e77] at H
            first
            | (rw [if_neg c44] at H; exact H)
            | (rw [if_pos c44, if_pos (by omega)] at H; exact H)
            | (rw [if_pos c44, if_neg (by omega)] at H; exact H)
          · refine ih _ _ _ _ _ _ N92 (by omega) (by omega) (by omega) (by omega) (by first | exact hD2 | exact hD) ?_
            rw [bml] at H
            try rw [← e77] at H
            first
            | (rw [if_neg c44] at H; exact H)
            | (rw [if_pos c44, if_pos (by omega)] at H; exact H)
            | (rw [if_pos c44, if_neg (by omega)] at H; exact H)
      · refine ih _ _ _ _ _ _ M (by omega) (by omega) (by omega) (by omega) (by first | exact hD2 | exact hD) ?_
        rw [bml] at H
        try rw [← e77] at H
        first
        | (rw [if_neg c44] at H; exact H)
        | (rw [if_pos c44, if_pos (by omega)] at H; exact H)
        | (rw [if_pos c44, if_neg (by omega)] at H; exact H)
    · exfalso; omega
theorem S_X7_bestMask {d b : Nat} {h0 h : PH} {D : Nat → Int → Int} {s : Int → Int} {t : Int} {Q : Int → PH → Prop} {X : Nat → PH → Prop} {N : Int} {p : Int} (M : Mt b h0 h D s t) (W : WD D s N) (hvp : InR p) (H : ∀ (x : Int) h' D', (ck (tL D) p 0 (D 0 4 - 1) 2 = 0 → x = bml D s p (D 0 3).toNat 0 (-1) 0 ∧ ∀ j, j ≠ 7 → D' j = D j) → (ck (tL D) p 0 (D 0 4 - 1) 2 ≠ 0 → D' = D) → Mt b h0 h' D' s (ck (tL D) p 0 (D 0 4 - 1) 2) → Q x h') : RUN GQ (d + 11) m_X7_bestMask [pA b, pI p] h Q X := by
  obtain ⟨w1, w2, w3, wN, ws1, wI⟩ := id W
  have kL := tL_or D
  have k1 := ck_or (tL D) p 0 (D 0 4 - 1) 2
  rw [e_X7_bestMask]
  refine WP.of (RUN.mono GQ _) (cuts := [28]) (n := 400) (v_X7_bestMask_0 _ _ _ _ _ _ _ _ _ _ ?_)
  refine ⟨M.k0, ?_⟩
  refine S_X7_noProgram M W (by omega) (fun x2 h2 e2 M2 => ?_)
  refine ⟨ir (by omega) (by omega), fun c5 => ?_, fun c5 => ?_⟩
  · obtain ⟨I, V, sw⟩ := wI (by omega)
    refine ⟨M2.k0, ?_⟩
    try rw [M2.r11]
    refine M2.ld6 (by omega) (by omega) (fun er => ?_)
    try rw [er]
    clear er
    refine L_X7_bestMask_28 I V (by omega) sw (by omega) rfl ((D 0 3).toNat) _ _ _ _ _ _ M2 (by omega) (by omega) (by omega) (by omega) (by exact fun _ _ => rfl) ?_
    refine fun x h' D' e q M => H x h' D' (fun _ => ⟨e, q⟩) (fun z => absurd (by omega) z) (M.castT (by omega))
  · exact H _ _ D (fun z => absurd z (by omega)) (fun _ => rfl) (M2.castT (by omega))
