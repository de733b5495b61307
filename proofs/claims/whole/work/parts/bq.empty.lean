/-! what is emptied, what is added (written by wip/whole/tools/eng.py) -/
section VCS
variable {call : PC} {mc ms fr : Nat} {Q : Int → PH → Prop} {X : Nat → PH → Prop} {K : PK}
set_option maxRecDepth 100000 in
theorem v_X0_fillWithZeros_0 (a0 : Nat) (z1 : Option PV) (h : PH) (c s : Nat) (H : K 2 [some (pA a0), some (pI 0)] [] h c s) : wpc k_X0_fillWithZeros [] call mc ms fr Q X [2] K 400 (pto 0 k_X0_fillWithZeros) [some (pA a0), z1] [] h c s :=
  H
set_option maxRecDepth 100000 in
theorem v_X0_fillWithZeros_2 (a0 : Nat) (i1 : Int) (h : PH) (c s : Nat) (H : (20 ≤ hk h a0 ∧ hk h a0 ≤ 26) ∧ InR i1 ∧ InR ((hl h a0 : Int)) ∧ (i1 < ((hl h a0 : Int)) →
 hk h a0 = 20 ∧ (0 ≤ i1 ∧ i1 < (hl h a0 : Int)) ∧ ∀ h1, h1 = hsi h a0 (Int.toNat i1) 0 →
 K 2 [some (pA a0), some (pI (i1 + 1))] [] h1 c s) ∧
(((hl h a0 : Int)) ≤ i1 →
 Q 0 h)) : wpc k_X0_fillWithZeros [] call mc ms fr Q X [2] K 400 (pto 2 k_X0_fillWithZeros) [some (pA a0), some (pI i1)] [] h c s :=
  H
set_option maxRecDepth 100000 in
theorem v_X1_empty_0 (a0 : Nat) (z1 : Option PV) (h : PH) (c s : Nat) (H : K 2 [some (pA a0), some (pI 0)] [] h c s) : wpc k_X1_empty [] call mc ms fr Q X [2] K 400 (pto 0 k_X1_empty) [some (pA a0), z1] [] h c s :=
  H
set_option maxRecDepth 100000 in
theorem v_X1_empty_2 (a0 : Nat) (i1 : Int) (h : PH) (c s : Nat) (H : hk h a0 = 2 ∧ (20 ≤ hk h (hr h a0 1) ∧ hk h (hr h a0 1) ≤ 26) ∧ InR i1 ∧ InR ((hl h (hr h a0 1) : Int)) ∧ (i1 < ((hl h (hr h a0 1) : Int)) →
 hk h a0 = 2 ∧ hk h (hr h a0 1) = 20 ∧ (0 ≤ i1 ∧ i1 < (hl h (hr h a0 1) : Int)) ∧ ∀ h1, h1 = hsi h (hr h a0 1) (Int.toNat i1) 0 →
 K 2 [some (pA a0), some (pI (i1 + 1))] [] h1 c s) ∧
(((hl h (hr h a0 1) : Int)) ≤ i1 →
 Q 0 h)) : wpc k_X1_empty [] call mc ms fr Q X [2] K 400 (pto 2 k_X1_empty) [some (pA a0), some (pI i1)] [] h c s :=
  H
set_option maxRecDepth 100000 in
theorem v_X0_empty_0 (a0 : Nat) (h : PH) (c s : Nat) (H : hk h a0 = 1 ∧ call m_X0_fillWithZeros [pA (hr h a0 0)] h (fun _ h1 =>
 hk h1 a0 = 1 ∧ call m_X0_fillWithZeros [pA (hr h1 a0 1)] h1 (fun _ h2 =>
 hk h2 a0 = 1 ∧ call m_X0_fillWithZeros [pA (hr h2 a0 2)] h2 (fun _ h3 =>
 hk h3 a0 = 1 ∧ call m_X0_fillWithZeros [pA (hr h3 a0 3)] h3 (fun _ h4 =>
 hk h4 a0 = 1 ∧ call m_X0_fillWithZeros [pA (hr h4 a0 4)] h4 (fun _ h5 =>
 hk h5 a0 = 1 ∧ call m_X0_fillWithZeros [pA (hr h5 a0 7)] h5 (fun _ h6 =>
 hk h6 a0 = 1 ∧ hk h6 (hr h6 a0 5) = 2 ∧ call m_X1_empty [pA (hr h6 a0 5)] h6 (fun _ h7 =>
 hk h7 a0 = 1 ∧ hk h7 (hr h7 a0 6) = 2 ∧ call m_X1_empty [pA (hr h7 a0 6)] h7 (fun _ h8 =>
 hk h8 a0 = 1 ∧ ∀ h9, h9 = hsi h8 a0 9 0 →
 hk h9 a0 = 1 ∧ ∀ h10, h10 = hsi h9 a0 10 0 →
 hk h10 a0 = 1 ∧ ∀ h11, h11 = hsi h10 a0 11 0 →
 hk h11 a0 = 1 ∧ ∀ h12, h12 = hsi h11 a0 12 0 →
 hk h12 a0 = 1 ∧ ∀ h13, h13 = hsi h12 a0 13 ((-1)) →
 hk h13 a0 = 1 ∧ ∀ h14, h14 = hsi h13 a0 14 ((-1)) →
 Q 0 h14) X) X) X) X) X) X) X) X) : wpc k_X0_empty [] call mc ms fr Q X [] K 400 (pto 0 k_X0_empty) [some (pA a0)] [] h c s :=
  H
set_option maxRecDepth 100000 in
theorem v_X5_empty_0 (a0 : Nat) (z1 : Option PV) (h : PH) (c s : Nat) (H : hk h a0 = 6 ∧ hk h (hr h a0 0) = 3 ∧ ∀ h1, h1 = hsi h (hr h a0 0) 2 0 →
 hk h1 a0 = 6 ∧ hk h1 (hr h1 a0 1) = 3 ∧ ∀ h2, h2 = hsi h1 (hr h1 a0 1) 2 0 →
 K 18 [some (pA a0), some (pI 0)] [] h2 c s) : wpc k_X5_empty [] call mc ms fr Q X [18, 42] K 400 (pto 0 k_X5_empty) [some (pA a0), z1] [] h c s :=
  H
set_option maxRecDepth 100000 in
theorem v_X5_empty_18 (a0 : Nat) (i1 : Int) (h : PH) (c s : Nat) (H : hk h a0 = 6 ∧ (20 ≤ hk h (hr h a0 2) ∧ hk h (hr h a0 2) ≤ 26) ∧ InR i1 ∧ InR ((hl h (hr h a0 2) : Int)) ∧ (i1 < ((hl h (hr h a0 2) : Int)) →
 hk h a0 = 6 ∧ hk h (hr h a0 2) = 20 ∧ (0 ≤ i1 ∧ i1 < (hl h (hr h a0 2) : Int)) ∧ ∀ h1, h1 = hsi h (hr h a0 2) (Int.toNat i1) 0 →
 K 18 [some (pA a0), some (pI (i1 + 1))] [] h1 c s) ∧
(((hl h (hr h a0 2) : Int)) ≤ i1 →
 K 42 [some (pA a0), some (pI 0)] [] h c s)) : wpc k_X5_empty [] call mc ms fr Q X [18, 42] K 400 (pto 18 k_X5_empty) [some (pA a0), some (pI i1)] [] h c s :=
  H
set_option maxRecDepth 100000 in
theorem v_X5_empty_42 (a0 : Nat) (i1 : Int) (h : PH) (c s : Nat) (H : hk h a0 = 6 ∧ (20 ≤ hk h (hr h a0 3) ∧ hk h (hr h a0 3) ≤ 26) ∧ InR i1 ∧ InR ((hl h (hr h a0 3) : Int)) ∧ (i1 < ((hl h (hr h a0 3) : Int)) →
 hk h a0 = 6 ∧ hk h (hr h a0 3) = 20 ∧ (0 ≤ i1 ∧ i1 < (hl h (hr h a0 3) : Int)) ∧ ∀ h1, h1 = hsi h (hr h a0 3) (Int.toNat i1) 0 →
 K 42 [some (pA a0), some (pI (i1 + 1))] [] h1 c s) ∧
(((hl h (hr h a0 3) : Int)) ≤ i1 →
 Q 0 h)) : wpc k_X5_empty [] call mc ms fr Q X [18, 42] K 400 (pto 42 k_X5_empty) [some (pA a0), some (pI i1)] [] h c s :=
  H
set_option maxRecDepth 100000 in
theorem v_X5_addHandler_0 (a0 : Nat) (i1 : Int) (i2 : Int) (i3 : Int) (z4 : Option PV) (h : PH) (c s : Nat) (H : InR ((i1 * 8) + i2) ∧ (((i1 * 8) + i2) < 0 →
 Q 0 h) ∧
(0 ≤ ((i1 * 8) + i2) →
 hk h a0 = 6 ∧ (20 ≤ hk h (hr h a0 2) ∧ hk h (hr h a0 2) ≤ 26) ∧ InR ((i1 * 8) + i2) ∧ InR ((hl h (hr h a0 2) : Int)) ∧ (((i1 * 8) + i2) < ((hl h (hr h a0 2) : Int)) →
 hk h a0 = 6 ∧ hk h (hr h a0 2) = 20 ∧ (0 ≤ ((i1 * 8) + i2) ∧ ((i1 * 8) + i2) < (hl h (hr h a0 2) : Int)) ∧ ∀ h1, h1 = hsi h (hr h a0 2) (Int.toNat (((i1 * 8) + i2))) i3 →
 Q 0 h1) ∧
(((hl h (hr h a0 2) : Int)) ≤ ((i1 * 8) + i2) →
 Q 0 h))) : wpc k_X5_addHandler [] call mc ms fr Q X [] K 400 (pto 0 k_X5_addHandler) [some (pA a0), some (pI i1), some (pI i2), some (pI i3), z4] [] h c s :=
  H
set_option maxRecDepth 100000 in
theorem v_X5_addAct_0 (a0 : Nat) (i1 : Int) (i2 : Int) (i3 : Int) (i4 : Int) (i5 : Int) (i6 : Int) (z7 : Option PV) (z8 : Option PV) (h : PH) (c s : Nat) (H : InR ((i1 * 8) + i2) ∧ (((i1 * 8) + i2) < 0 →
 Q 0 h) ∧
(0 ≤ ((i1 * 8) + i2) →
 hk h a0 = 6 ∧ (20 ≤ hk h (hr h a0 3) ∧ hk h (hr h a0 3) ≤ 26) ∧ InR ((i1 * 8) + i2) ∧ InR ((hl h (hr h a0 3) : Int)) ∧ (((i1 * 8) + i2) < ((hl h (hr h a0 3) : Int)) →
 hk h a0 = 6 ∧ (hk h (hr h a0 3) = 20 ∨ hk h (hr h a0 3) = 26) ∧ (0 ≤ ((i1 * 8) + i2) ∧ ((i1 * 8) + i2) < (hl h (hr h a0 3) : Int)) ∧ InR (((((i1 * 8) + i2) * 4) + (hi h (hr h a0 3) (Int.toNat (((i1 * 8) + i2))))) * 4) ∧ ((((((i1 * 8) + i2) * 4) + (hi h (hr h a0 3) (Int.toNat (((i1 * 8) + i2))))) * 4) < 0 →
 Q 0 h) ∧
(0 ≤ (((((i1 * 8) + i2) * 4) + (hi h (hr h a0 3) (Int.toNat (((i1 * 8) + i2))))) * 4) →
 hk h a0 = 6 ∧ (20 ≤ hk h (hr h a0 4) ∧ hk h (hr h a0 4) ≤ 26) ∧ InR ((((((i1 * 8) + i2) * 4) + (hi h (hr h a0 3) (Int.toNat (((i1 * 8) + i2))))) * 4) + 3) ∧ InR ((hl h (hr h a0 4) : Int)) ∧ (((((((i1 * 8) + i2) * 4) + (hi h (hr h a0 3) (Int.toNat (((i1 * 8) + i2))))) * 4) + 3) < ((hl h (hr h a0 4) : Int)) →
 hk h a0 = 6 ∧ hk h (hr h a0 4) = 20 ∧ (0 ≤ ((((((i1 * 8) + i2) * 4) + (hi h (hr h a0 3) (Int.toNat (((i1 * 8) + i2))))) * 4) + 0) ∧ ((((((i1 * 8) + i2) * 4) + (hi h (hr h a0 3) (Int.toNat (((i1 * 8) + i2))))) * 4) + 0) < (hl h (hr h a0 4) : Int)) ∧ ∀ h1, h1 = hsi h (hr h a0 4) (Int.toNat (((((((i1 * 8) + i2) * 4) + (hi h (hr h a0 3) (Int.toNat (((i1 * 8) + i2))))) * 4) + 0))) i3 →
 hk h1 a0 = 6 ∧ hk h1 (hr h1 a0 4) = 20 ∧ (0 ≤ ((((((i1 * 8) + i2) * 4) + (hi h (hr h a0 3) (Int.toNat (((i1 * 8) + i2))))) * 4) + 1) ∧ ((((((i1 * 8) + i2) * 4) + (hi h (hr h a0 3) (Int.toNat (((i1 * 8) + i2))))) * 4) + 1) < (hl h1 (hr h1 a0 4) : Int)) ∧ ∀ h2, h2 = hsi h1 (hr h1 a0 4) (Int.toNat (((((((i1 * 8) + i2) * 4) + (hi h (hr h a0 3) (Int.toNat (((i1 * 8) + i2))))) * 4) + 1))) i4 →
 hk h2 a0 = 6 ∧ hk h2 (hr h2 a0 4) = 20 ∧ (0 ≤ ((((((i1 * 8) + i2) * 4) + (hi h (hr h a0 3) (Int.toNat (((i1 * 8) + i2))))) * 4) + 2) ∧ ((((((i1 * 8) + i2) * 4) + (hi h (hr h a0 3) (Int.toNat (((i1 * 8) + i2))))) * 4) + 2) < (hl h2 (hr h2 a0 4) : Int)) ∧ ∀ h3, h3 = hsi h2 (hr h2 a0 4) (Int.toNat (((((((i1 * 8) + i2) * 4) + (hi h (hr h a0 3) (Int.toNat (((i1 * 8) + i2))))) * 4) + 2))) i5 →
 hk h3 a0 = 6 ∧ hk h3 (hr h3 a0 4) = 20 ∧ (0 ≤ ((((((i1 * 8) + i2) * 4) + (hi h (hr h a0 3) (Int.toNat (((i1 * 8) + i2))))) * 4) + 3) ∧ ((((((i1 * 8) + i2) * 4) + (hi h (hr h a0 3) (Int.toNat (((i1 * 8) + i2))))) * 4) + 3) < (hl h3 (hr h3 a0 4) : Int)) ∧ ∀ h4, h4 = hsi h3 (hr h3 a0 4) (Int.toNat (((((((i1 * 8) + i2) * 4) + (hi h (hr h a0 3) (Int.toNat (((i1 * 8) + i2))))) * 4) + 3))) i6 →
 hk h4 a0 = 6 ∧ (hk h4 (hr h4 a0 3) = 20 ∨ hk h4 (hr h4 a0 3) = 26) ∧ (0 ≤ ((i1 * 8) + i2) ∧ ((i1 * 8) + i2) < (hl h4 (hr h4 a0 3) : Int)) ∧ hk h4 (hr h4 a0 3) = 20 ∧ (0 ≤ ((i1 * 8) + i2) ∧ ((i1 * 8) + i2) < (hl h4 (hr h4 a0 3) : Int)) ∧ ∀ h5, h5 = hsi h4 (hr h4 a0 3) (Int.toNat (((i1 * 8) + i2))) ((hi h4 (hr h4 a0 3) (Int.toNat (((i1 * 8) + i2)))) + 1) →
 Q 0 h5) ∧
(((hl h (hr h a0 4) : Int)) ≤ ((((((i1 * 8) + i2) * 4) + (hi h (hr h a0 3) (Int.toNat (((i1 * 8) + i2))))) * 4) + 3) →
 Q 0 h))) ∧
(((hl h (hr h a0 3) : Int)) ≤ ((i1 * 8) + i2) →
 Q 0 h))) : wpc k_X5_addAct [] call mc ms fr Q X [] K 400 (pto 0 k_X5_addAct) [some (pA a0), some (pI i1), some (pI i2), some (pI i3), some (pI i4), some (pI i5), some (pI i6), z7, z8] [] h c s :=
  H
set_option maxRecDepth 100000 in
theorem v_X2_add_0 (a0 : Nat) (a1 : Nat) (i2 : Int) (i3 : Int) (z4 : Option PV) (h : PH) (c s : Nat) (H : hk h a0 = 3 ∧ hk h a0 = 3 ∧ (20 ≤ hk h (hr h a0 0) ∧ hk h (hr h a0 0) ≤ 26) ∧ InR (hi h a0 2) ∧ InR ((hl h (hr h a0 0) : Int)) ∧ ((hi h a0 2) < ((hl h (hr h a0 0) : Int)) →
 InR i3 ∧ InR 7 ∧ (7 < i3 →
 Q 0 h) ∧
(i3 ≤ 7 →
 InR i2 ∧ (i2 < 0 →
 Q 0 h) ∧
(0 ≤ i2 →
 (20 ≤ hk h a1 ∧ hk h a1 ≤ 26) ∧ InR i2 ∧ InR (((hl h a1 : Int)) - i3) ∧ ((((hl h a1 : Int)) - i3) < i2 →
 Q 0 h) ∧
(i2 ≤ (((hl h a1 : Int)) - i3) →
 hk h a0 = 3 ∧ hk h a0 = 3 ∧ hk h (hr h a0 0) = 20 ∧ (0 ≤ (hi h a0 2) ∧ (hi h a0 2) < (hl h (hr h a0 0) : Int)) ∧ ∀ h1, h1 = hsi h (hr h a0 0) (Int.toNat ((hi h a0 2))) i3 →
 K 44 [some (pA a0), some (pA a1), some (pI i2), some (pI i3), some (pI 0)] [] h1 c s)))) ∧
(((hl h (hr h a0 0) : Int)) ≤ (hi h a0 2) →
 Q 0 h)) : wpc k_X2_add [] call mc ms fr Q X [44] K 400 (pto 0 k_X2_add) [some (pA a0), some (pA a1), some (pI i2), some (pI i3), z4] [] h c s :=
  H
set_option maxRecDepth 100000 in
theorem v_X2_add_44 (a0 : Nat) (a1 : Nat) (i2 : Int) (i3 : Int) (i4 : Int) (h : PH) (c s : Nat) (H : InR i4 ∧ InR i3 ∧ (i4 < i3 →
 hk h a0 = 3 ∧ hk h a0 = 3 ∧ hk h a1 = 21 ∧ (0 ≤ (i2 + i4) ∧ (i2 + i4) < (hl h a1 : Int)) ∧ hk h (hr h a0 1) = 21 ∧ (0 ≤ (((hi h a0 2) * 7) + i4) ∧ (((hi h a0 2) * 7) + i4) < (hl h (hr h a0 1) : Int)) ∧ ∀ h1, h1 = hsi h (hr h a0 1) (Int.toNat ((((hi h a0 2) * 7) + i4))) (bi2b (hi h a1 (Int.toNat ((i2 + i4))))) →
 K 44 [some (pA a0), some (pA a1), some (pI i2), some (pI i3), some (pI (i4 + 1))] [] h1 c s) ∧
(i3 ≤ i4 →
 hk h a0 = 3 ∧ hk h a0 = 3 ∧ ∀ h2, h2 = hsi h a0 2 ((hi h a0 2) + 1) →
 Q 0 h2)) : wpc k_X2_add [] call mc ms fr Q X [44] K 400 (pto 44 k_X2_add) [some (pA a0), some (pA a1), some (pI i2), some (pI i3), some (pI i4)] [] h c s :=
  H
end VCS
theorem L_X0_fillWithZeros_1_2 {d b : Nat} {h0 : PH} {Q : Int → PH → Prop} {X : Nat → PH → Prop}  : ∀ (n : Nat) (i : Int) (E : Nat → Int → Int) (h : PH), (Hx b h0 h E) → (0 ≤ i ∧ i + n = 4) → (∀ (x : Int) h', x = 0 → Hx b h0 h' (zrw 1 n i E) → Q x h') → WP k_X0_fillWithZeros [] (RUN GQ (d + 0)) 0 0 (d + 1) Q X 2 [some (pA (b + 1)), some (pI i)] [] h 0 0 := by
  intro n
  induction n with
  | zero =>
    intro i E h M hk0 H
    refine WP.of (RUN.mono GQ _) (cuts := [2]) (n := 400) (v_X0_fillWithZeros_2 _ _ _ _ _ ?_)
    refine Bx.al M 1 4 20 (by decide) rfl (by decide) rfl (fun el4 => ?_)
    refine ⟨ir (by omega) (by omega), ir (by omega) (by omega), fun c5 => ?_, fun c5 => ?_⟩
    · exfalso; omega
    · exact H _ _ rfl M
  | succ n ih =>
    intro i E h M hk0 H
    refine WP.of (RUN.mono GQ _) (cuts := [2]) (n := 400) (v_X0_fillWithZeros_2 _ _ _ _ _ ?_)
    refine Bx.al M 1 4 20 (by decide) rfl (by decide) rfl (fun el4 => ?_)
    refine ⟨ir (by omega) (by omega), ir (by omega) (by omega), fun c5 => ?_, fun c5 => ?_⟩
    · refine Bx.as M 1 4 (by decide) rfl rfl (by omega) (by omega) (fun h11 M11 => ?_)
      refine ih _ _ _ M11 (by omega) ?_
      exact H
    · exfalso; omega
theorem S_X0_fillWithZeros_1 {d b : Nat} {h0 h : PH} {E : Nat → Int → Int} {Q : Int → PH → Prop} {X : Nat → PH → Prop} (M : Hx b h0 h E)  (H : ∀ (x : Int) h', x = (0) → Hx b h0 h' (zrw 1 4 0 E) → Q x h') : RUN GQ (d + 1) m_X0_fillWithZeros [pA (b + 1)] h Q X := by
  rw [e_X0_fillWithZeros]
  refine WP.of (RUN.mono GQ _) (cuts := [2]) (n := 400) (v_X0_fillWithZeros_0 _ _ _ _ _ ?_)
  refine L_X0_fillWithZeros_1_2 (4) _ _ _ M (by omega) ?_
  exact H
theorem L_X0_fillWithZeros_2_2 {d b : Nat} {h0 : PH} {Q : Int → PH → Prop} {X : Nat → PH → Prop}  : ∀ (n : Nat) (i : Int) (E : Nat → Int → Int) (h : PH), (Hx b h0 h E) → (0 ≤ i ∧ i + n = 24) → (∀ (x : Int) h', x = 0 → Hx b h0 h' (zrw 2 n i E) → Q x h') → WP k_X0_fillWithZeros [] (RUN GQ (d + 0)) 0 0 (d + 1) Q X 2 [some (pA (b + 2)), some (pI i)] [] h 0 0 := by
  intro n
  induction n with
  | zero =>
    intro i E h M hk0 H
    refine WP.of (RUN.mono GQ _) (cuts := [2]) (n := 400) (v_X0_fillWithZeros_2 _ _ _ _ _ ?_)
    refine Bx.al M 2 24 20 (by decide) rfl (by decide) rfl (fun el4 => ?_)
    refine ⟨ir (by omega) (by omega), ir (by omega) (by omega), fun c5 => ?_, fun c5 => ?_⟩
    · exfalso; omega
    · exact H _ _ rfl M
  | succ n ih =>
    intro i E h M hk0 H
    refine WP.of (RUN.mono GQ _) (cuts := [2]) (n := 400) (v_X0_fillWithZeros_2 _ _ _ _ _ ?_)
    refine Bx.al M 2 24 20 (by decide) rfl (by decide) rfl (fun el4 => ?_)
    refine ⟨ir (by omega) (by omega), ir (by omega) (by omega), fun c5 => ?_, fun c5 => ?_⟩
    · refine Bx.as M 2 24 (by decide) rfl rfl (by omega) (by omega) (fun h11 M11 => ?_)
      refine ih _ _ _ M11 (by omega) ?_
      exact H
    · exfalso; omega
theorem S_X0_fillWithZeros_2 {d b : Nat} {h0 h : PH} {E : Nat → Int → Int} {Q : Int → PH → Prop} {X : Nat → PH → Prop} (M : Hx b h0 h E)  (H : ∀ (x : Int) h', x = (0) → Hx b h0 h' (zrw 2 24 0 E) → Q x h') : RUN GQ (d + 1) m_X0_fillWithZeros [pA (b + 2)] h Q X := by
  rw [e_X0_fillWithZeros]
  refine WP.of (RUN.mono GQ _) (cuts := [2]) (n := 400) (v_X0_fillWithZeros_0 _ _ _ _ _ ?_)
  refine L_X0_fillWithZeros_2_2 (24) _ _ _ M (by omega) ?_
  exact H
theorem L_X0_fillWithZeros_3_2 {d b : Nat} {h0 : PH} {Q : Int → PH → Prop} {X : Nat → PH → Prop}  : ∀ (n : Nat) (i : Int) (E : Nat → Int → Int) (h : PH), (Hx b h0 h E) → (0 ≤ i ∧ i + n = 48) → (∀ (x : Int) h', x = 0 → Hx b h0 h' (zrw 3 n i E) → Q x h') → WP k_X0_fillWithZeros [] (RUN GQ (d + 0)) 0 0 (d + 1) Q X 2 [some (pA (b + 3)), some (pI i)] [] h 0 0 := by
  intro n
  induction n with
  | zero =>
    intro i E h M hk0 H
    refine WP.of (RUN.mono GQ _) (cuts := [2]) (n := 400) (v_X0_fillWithZeros_2 _ _ _ _ _ ?_)
    refine Bx.al M 3 48 20 (by decide) rfl (by decide) rfl (fun el4 => ?_)
    refine ⟨ir (by omega) (by omega), ir (by omega) (by omega), fun c5 => ?_, fun c5 => ?_⟩
    · exfalso; omega
    · exact H _ _ rfl M
  | succ n ih =>
    intro i E h M hk0 H
    refine WP.of (RUN.mono GQ _) (cuts := [2]) (n := 400) (v_X0_fillWithZeros_2 _ _ _ _ _ ?_)
    refine Bx.al M 3 48 20 (by decide) rfl (by decide) rfl (fun el4 => ?_)
    refine ⟨ir (by omega) (by omega), ir (by omega) (by omega), fun c5 => ?_, fun c5 => ?_⟩
    · refine Bx.as M 3 48 (by decide) rfl rfl (by omega) (by omega) (fun h11 M11 => ?_)
      refine ih _ _ _ M11 (by omega) ?_
      exact H
    · exfalso; omega
theorem S_X0_fillWithZeros_3 {d b : Nat} {h0 h : PH} {E : Nat → Int → Int} {Q : Int → PH → Prop} {X : Nat → PH → Prop} (M : Hx b h0 h E)  (H : ∀ (x : Int) h', x = (0) → Hx b h0 h' (zrw 3 48 0 E) → Q x h') : RUN GQ (d + 1) m_X0_fillWithZeros [pA (b + 3)] h Q X := by
  rw [e_X0_fillWithZeros]
  refine WP.of (RUN.mono GQ _) (cuts := [2]) (n := 400) (v_X0_fillWithZeros_0 _ _ _ _ _ ?_)
  refine L_X0_fillWithZeros_3_2 (48) _ _ _ M (by omega) ?_
  exact H
theorem L_X0_fillWithZeros_4_2 {d b : Nat} {h0 : PH} {Q : Int → PH → Prop} {X : Nat → PH → Prop}  : ∀ (n : Nat) (i : Int) (E : Nat → Int → Int) (h : PH), (Hx b h0 h E) → (0 ≤ i ∧ i + n = 6) → (∀ (x : Int) h', x = 0 → Hx b h0 h' (zrw 4 n i E) → Q x h') → WP k_X0_fillWithZeros [] (RUN GQ (d + 0)) 0 0 (d + 1) Q X 2 [some (pA (b + 4)), some (pI i)] [] h 0 0 := by
  intro n
  induction n with
  | zero =>
    intro i E h M hk0 H
    refine WP.of (RUN.mono GQ _) (cuts := [2]) (n := 400) (v_X0_fillWithZeros_2 _ _ _ _ _ ?_)
    refine Bx.al M 4 6 20 (by decide) rfl (by decide) rfl (fun el4 => ?_)
    refine ⟨ir (by omega) (by omega), ir (by omega) (by omega), fun c5 => ?_, fun c5 => ?_⟩
    · exfalso; omega
    · exact H _ _ rfl M
  | succ n ih =>
    intro i E h M hk0 H
    refine WP.of (RUN.mono GQ _) (cuts := [2]) (n := 400) (v_X0_fillWithZeros_2 _ _ _ _ _ ?_)
    refine Bx.al M 4 6 20 (by decide) rfl (by decide) rfl (fun el4 => ?_)
    refine ⟨ir (by omega) (by omega), ir (by omega) (by omega), fun c5 => ?_, fun c5 => ?_⟩
    · refine Bx.as M 4 6 (by decide) rfl rfl (by omega) (by omega) (fun h11 M11 => ?_)
      refine ih _ _ _ M11 (by omega) ?_
      exact H
    · exfalso; omega
theorem S_X0_fillWithZeros_4 {d b : Nat} {h0 h : PH} {E : Nat → Int → Int} {Q : Int → PH → Prop} {X : Nat → PH → Prop} (M : Hx b h0 h E)  (H : ∀ (x : Int) h', x = (0) → Hx b h0 h' (zrw 4 6 0 E) → Q x h') : RUN GQ (d + 1) m_X0_fillWithZeros [pA (b + 4)] h Q X := by
  rw [e_X0_fillWithZeros]
  refine WP.of (RUN.mono GQ _) (cuts := [2]) (n := 400) (v_X0_fillWithZeros_0 _ _ _ _ _ ?_)
  refine L_X0_fillWithZeros_4_2 (6) _ _ _ M (by omega) ?_
  exact H
theorem L_X0_fillWithZeros_5_2 {d b : Nat} {h0 : PH} {Q : Int → PH → Prop} {X : Nat → PH → Prop}  : ∀ (n : Nat) (i : Int) (E : Nat → Int → Int) (h : PH), (Hx b h0 h E) → (0 ≤ i ∧ i + n = 24) → (∀ (x : Int) h', x = 0 → Hx b h0 h' (zrw 5 n i E) → Q x h') → WP k_X0_fillWithZeros [] (RUN GQ (d + 0)) 0 0 (d + 1) Q X 2 [some (pA (b + 5)), some (pI i)] [] h 0 0 := by
  intro n
  induction n with
  | zero =>
    intro i E h M hk0 H
    refine WP.of (RUN.mono GQ _) (cuts := [2]) (n := 400) (v_X0_fillWithZeros_2 _ _ _ _ _ ?_)
    refine Bx.al M 5 24 20 (by decide) rfl (by decide) rfl (fun el4 => ?_)
    refine ⟨ir (by omega) (by omega), ir (by omega) (by omega), fun c5 => ?_, fun c5 => ?_⟩
    · exfalso; omega
    · exact H _ _ rfl M
  | succ n ih =>
    intro i E h M hk0 H
    refine WP.of (RUN.mono GQ _) (cuts := [2]) (n := 400) (v_X0_fillWithZeros_2 _ _ _ _ _ ?_)
    refine Bx.al M 5 24 20 (by decide) rfl (by decide) rfl (fun el4 => ?_)
    refine ⟨ir (by omega) (by omega), ir (by omega) (by omega), fun c5 => ?_, fun c5 => ?_⟩
    · refine Bx.as M 5 24 (by decide) rfl rfl (by omega) (by omega) (fun h11 M11 => ?_)
      refine ih _ _ _ M11 (by omega) ?_
      exact H
    · exfalso; omega
theorem S_X0_fillWithZeros_5 {d b : Nat} {h0 h : PH} {E : Nat → Int → Int} {Q : Int → PH → Prop} {X : Nat → PH → Prop} (M : Hx b h0 h E)  (H : ∀ (x : Int) h', x = (0) → Hx b h0 h' (zrw 5 24 0 E) → Q x h') : RUN GQ (d + 1) m_X0_fillWithZeros [pA (b + 5)] h Q X := by
  rw [e_X0_fillWithZeros]
  refine WP.of (RUN.mono GQ _) (cuts := [2]) (n := 400) (v_X0_fillWithZeros_0 _ _ _ _ _ ?_)
  refine L_X0_fillWithZeros_5_2 (24) _ _ _ M (by omega) ?_
  exact H
theorem L_X0_fillWithZeros_12_2 {d b : Nat} {h0 : PH} {Q : Int → PH → Prop} {X : Nat → PH → Prop}  : ∀ (n : Nat) (i : Int) (E : Nat → Int → Int) (h : PH), (Hx b h0 h E) → (0 ≤ i ∧ i + n = 6) → (∀ (x : Int) h', x = 0 → Hx b h0 h' (zrw 12 n i E) → Q x h') → WP k_X0_fillWithZeros [] (RUN GQ (d + 0)) 0 0 (d + 1) Q X 2 [some (pA (b + 12)), some (pI i)] [] h 0 0 := by
  intro n
  induction n with
  | zero =>
    intro i E h M hk0 H
    refine WP.of (RUN.mono GQ _) (cuts := [2]) (n := 400) (v_X0_fillWithZeros_2 _ _ _ _ _ ?_)
    refine Bx.al M 12 6 20 (by decide) rfl (by decide) rfl (fun el4 => ?_)
    refine ⟨ir (by omega) (by omega), ir (by omega) (by omega), fun c5 => ?_, fun c5 => ?_⟩
    · exfalso; omega
    · exact H _ _ rfl M
  | succ n ih =>
    intro i E h M hk0 H
    refine WP.of (RUN.mono GQ _) (cuts := [2]) (n := 400) (v_X0_fillWithZeros_2 _ _ _ _ _ ?_)
    refine Bx.al M 12 6 20 (by decide) rfl (by decide) rfl (fun el4 => ?_)
    refine ⟨ir (by omega) (by omega), ir (by omega) (by omega), fun c5 => ?_, fun c5 => ?_⟩
    · refine Bx.as M 12 6 (by decide) rfl rfl (by omega) (by omega) (fun h11 M11 => ?_)
      refine ih _ _ _ M11 (by omega) ?_
      exact H
    · exfalso; omega
theorem S_X0_fillWithZeros_12 {d b : Nat} {h0 h : PH} {E : Nat → Int → Int} {Q : Int → PH → Prop} {X : Nat → PH → Prop} (M : Hx b h0 h E)  (H : ∀ (x : Int) h', x = (0) → Hx b h0 h' (zrw 12 6 0 E) → Q x h') : RUN GQ (d + 1) m_X0_fillWithZeros [pA (b + 12)] h Q X := by
  rw [e_X0_fillWithZeros]
  refine WP.of (RUN.mono GQ _) (cuts := [2]) (n := 400) (v_X0_fillWithZeros_0 _ _ _ _ _ ?_)
  refine L_X0_fillWithZeros_12_2 (6) _ _ _ M (by omega) ?_
  exact H
theorem L_X1_empty_q_2 {d b : Nat} {h0 : PH} {Q : Int → PH → Prop} {X : Nat → PH → Prop}  : ∀ (n : Nat) (i : Int) (E : Nat → Int → Int) (h : PH), (Hx b h0 h E) → (0 ≤ i ∧ i + n = 6) → (∀ (x : Int) h', x = 0 → Hx b h0 h' (zrw 7 n i E) → Q x h') → WP k_X1_empty [] (RUN GQ (d + 0)) 0 0 (d + 1) Q X 2 [some (pA (b + 6)), some (pI i)] [] h 0 0 := by
  intro n
  induction n with
  | zero =>
    intro i E h M hk0 H
    refine WP.of (RUN.mono GQ _) (cuts := [2]) (n := 400) (v_X1_empty_2 _ _ _ _ _ ?_)
    refine ⟨Bx.k M 6 (by decide) rfl, ?_⟩
    try rw [show hr h (b + 6) 1 = b + 7 from Bx.r M 6 1 7 (by decide)]
    refine Bx.al M 7 6 20 (by decide) rfl (by decide) rfl (fun el7 => ?_)
    refine ⟨ir (by omega) (by omega), ir (by omega) (by omega), fun c8 => ?_, fun c8 => ?_⟩
    · exfalso; omega
    · exact H _ _ rfl M
  | succ n ih =>
    intro i E h M hk0 H
    refine WP.of (RUN.mono GQ _) (cuts := [2]) (n := 400) (v_X1_empty_2 _ _ _ _ _ ?_)
    refine ⟨Bx.k M 6 (by decide) rfl, ?_⟩
    try rw [show hr h (b + 6) 1 = b + 7 from Bx.r M 6 1 7 (by decide)]
    refine Bx.al M 7 6 20 (by decide) rfl (by decide) rfl (fun el7 => ?_)
    refine ⟨ir (by omega) (by omega), ir (by omega) (by omega), fun c8 => ?_, fun c8 => ?_⟩
    · refine ⟨Bx.k M 6 (by decide) rfl, ?_⟩
      try rw [show hr h (b + 6) 1 = b + 7 from Bx.r M 6 1 7 (by decide)]
      refine Bx.as M 7 6 (by decide) rfl rfl (by omega) (by omega) (fun h17 M17 => ?_)
      refine ih _ _ _ M17 (by omega) ?_
      exact H
    · exfalso; omega
theorem S_X1_empty_q {d b : Nat} {h0 h : PH} {E : Nat → Int → Int} {Q : Int → PH → Prop} {X : Nat → PH → Prop} (M : Hx b h0 h E)  (H : ∀ (x : Int) h', x = (0) → Hx b h0 h' (zrw 7 6 0 E) → Q x h') : RUN GQ (d + 1) m_X1_empty [pA (b + 6)] h Q X := by
  rw [e_X1_empty]
  refine WP.of (RUN.mono GQ _) (cuts := [2]) (n := 400) (v_X1_empty_0 _ _ _ _ _ ?_)
  refine L_X1_empty_q_2 (6) _ _ _ M (by omega) ?_
  exact H
theorem L_X1_empty_s_2 {d b : Nat} {h0 : PH} {Q : Int → PH → Prop} {X : Nat → PH → Prop}  : ∀ (n : Nat) (i : Int) (E : Nat → Int → Int) (h : PH), (Hx b h0 h E) → (0 ≤ i ∧ i + n = 6) → (∀ (x : Int) h', x = 0 → Hx b h0 h' (zrw 10 n i E) → Q x h') → WP k_X1_empty [] (RUN GQ (d + 0)) 0 0 (d + 1) Q X 2 [some (pA (b + 9)), some (pI i)] [] h 0 0 := by
  intro n
  induction n with
  | zero =>
    intro i E h M hk0 H
    refine WP.of (RUN.mono GQ _) (cuts := [2]) (n := 400) (v_X1_empty_2 _ _ _ _ _ ?_)
    refine ⟨Bx.k M 9 (by decide) rfl, ?_⟩
    try rw [show hr h (b + 9) 1 = b + 10 from Bx.r M 9 1 10 (by decide)]
    refine Bx.al M 10 6 20 (by decide) rfl (by decide) rfl (fun el7 => ?_)
    refine ⟨ir (by omega) (by omega), ir (by omega) (by omega), fun c8 => ?_, fun c8 => ?_⟩
    · exfalso; omega
    · exact H _ _ rfl M
  | succ n ih =>
    intro i E h M hk0 H
    refine WP.of (RUN.mono GQ _) (cuts := [2]) (n := 400) (v_X1_empty_2 _ _ _ _ _ ?_)
    refine ⟨Bx.k M 9 (by decide) rfl, ?_⟩
    try rw [show hr h (b + 9) 1 = b + 10 from Bx.r M 9 1 10 (by decide)]
    refine Bx.al M 10 6 20 (by decide) rfl (by decide) rfl (fun el7 => ?_)
    refine ⟨ir (by omega) (by omega), ir (by omega) (by omega), fun c8 => ?_, fun c8 => ?_⟩
    · refine ⟨Bx.k M 9 (by decide) rfl, ?_⟩
      try rw [show hr h (b + 9) 1 = b + 10 from Bx.r M 9 1 10 (by decide)]
      refine Bx.as M 10 6 (by decide) rfl rfl (by omega) (by omega) (fun h17 M17 => ?_)
      refine ih _ _ _ M17 (by omega) ?_
      exact H
    · exfalso; omega
theorem S_X1_empty_s {d b : Nat} {h0 h : PH} {E : Nat → Int → Int} {Q : Int → PH → Prop} {X : Nat → PH → Prop} (M : Hx b h0 h E)  (H : ∀ (x : Int) h', x = (0) → Hx b h0 h' (zrw 10 6 0 E) → Q x h') : RUN GQ (d + 1) m_X1_empty [pA (b + 9)] h Q X := by
  rw [e_X1_empty]
  refine WP.of (RUN.mono GQ _) (cuts := [2]) (n := 400) (v_X1_empty_0 _ _ _ _ _ ?_)
  refine L_X1_empty_s_2 (6) _ _ _ M (by omega) ?_
  exact H
theorem S_X0_empty {d b : Nat} {h0 h : PH} {E : Nat → Int → Int} {Q : Int → PH → Prop} {X : Nat → PH → Prop} (M : Hx b h0 h E)  (H : ∀ (x : Int) h', x = (0) → Hx b h0 h' (emH E) → Q x h') : RUN GQ (d + 2) m_X0_empty [pA b] h Q X := by
  rw [e_X0_empty]
  refine WP.of (RUN.mono GQ _) (cuts := []) (n := 400) (v_X0_empty_0 _ _ _ _ ?_)
  refine ⟨Bx.k M 0 (by decide) rfl, ?_⟩
  try rw [show hr h b 0 = b + 1 from Bx.r M 0 0 1 (by decide)]
  refine S_X0_fillWithZeros_1 M (fun x4 h4 e4 M4 => ?_)
  subst e4
  refine ⟨Bx.k M4 0 (by decide) rfl, ?_⟩
  try rw [show hr h4 b 1 = b + 2 from Bx.r M4 0 1 2 (by decide)]
  refine S_X0_fillWithZeros_2 M4 (fun x11 h11 e11 M11 => ?_)
  subst e11
  refine ⟨Bx.k M11 0 (by decide) rfl, ?_⟩
  try rw [show hr h11 b 2 = b + 3 from Bx.r M11 0 2 3 (by decide)]
  refine S_X0_fillWithZeros_3 M11 (fun x18 h18 e18 M18 => ?_)
  subst e18
  refine ⟨Bx.k M18 0 (by decide) rfl, ?_⟩
  try rw [show hr h18 b 3 = b + 4 from Bx.r M18 0 3 4 (by decide)]
  refine S_X0_fillWithZeros_4 M18 (fun x25 h25 e25 M25 => ?_)
  subst e25
  refine ⟨Bx.k M25 0 (by decide) rfl, ?_⟩
  try rw [show hr h25 b 4 = b + 5 from Bx.r M25 0 4 5 (by decide)]
  refine S_X0_fillWithZeros_5 M25 (fun x32 h32 e32 M32 => ?_)
  subst e32
  refine ⟨Bx.k M32 0 (by decide) rfl, ?_⟩
  try rw [show hr h32 b 7 = b + 12 from Bx.r M32 0 7 12 (by decide)]
  refine S_X0_fillWithZeros_12 M32 (fun x39 h39 e39 M39 => ?_)
  subst e39
  refine ⟨Bx.k M39 0 (by decide) rfl, ?_⟩
  try rw [show hr h39 b 5 = b + 6 from Bx.r M39 0 5 6 (by decide)]
  refine ⟨Bx.k M39 6 (by decide) rfl, ?_⟩
  refine S_X1_empty_q M39 (fun x46 h46 e46 M46 => ?_)
  subst e46
  refine ⟨Bx.k M46 0 (by decide) rfl, ?_⟩
  try rw [show hr h46 b 6 = b + 9 from Bx.r M46 0 6 9 (by decide)]
  refine ⟨Bx.k M46 9 (by decide) rfl, ?_⟩
  refine S_X1_empty_s M46 (fun x53 h53 e53 M53 => ?_)
  subst e53
  refine Bx.pf9 M53 0 1 (by decide) rfl (fun h58 M58 => ?_)
  refine Bx.pf10 M58 0 1 (by decide) rfl (fun h63 M63 => ?_)
  refine Bx.pf11 M63 0 1 (by decide) rfl (fun h68 M68 => ?_)
  refine Bx.pf12 M68 0 1 (by decide) rfl (fun h73 M73 => ?_)
  refine Bx.pf13 M73 0 1 (by decide) rfl (fun h78 M78 => ?_)
  refine Bx.pf14 M78 0 1 (by decide) rfl (fun h83 M83 => ?_)
  exact H _ _ rfl M83
theorem L_X5_empty_42 {d b : Nat} {h0 : PH} {Q : Int → PH → Prop} {X : Nat → PH → Prop}  : ∀ (n : Nat) (i : Int) (EP : Nat → Int → Int) (h : PH), (Px b h0 h EP) → (0 ≤ i ∧ i + n = 48) → (∀ (x : Int) h', x = 0 → Px b h0 h' (zrw 8 n i EP) → Q x h') → WP k_X5_empty [] (RUN GQ (d + 0)) 0 0 (d + 1) Q X 42 [some (pA b), some (pI i)] [] h 0 0 := by
  intro n
  induction n with
  | zero =>
    intro i EP h M hk0 H
    refine WP.of (RUN.mono GQ _) (cuts := [18, 42]) (n := 400) (v_X5_empty_42 _ _ _ _ _ ?_)
    refine ⟨Bx.k M 0 (by decide) rfl, ?_⟩
    try rw [show hr h b 3 = b + 8 from Bx.r M 0 3 8 (by decide)]
    refine Bx.al M 8 48 20 (by decide) rfl (by decide) rfl (fun el47 => ?_)
    refine ⟨ir (by omega) (by omega), ir (by omega) (by omega), fun c48 => ?_, fun c48 => ?_⟩
    · exfalso; omega
    · exact H _ _ rfl M
  | succ n ih =>
    intro i EP h M hk0 H
    refine WP.of (RUN.mono GQ _) (cuts := [18, 42]) (n := 400) (v_X5_empty_42 _ _ _ _ _ ?_)
    refine ⟨Bx.k M 0 (by decide) rfl, ?_⟩
    try rw [show hr h b 3 = b + 8 from Bx.r M 0 3 8 (by decide)]
    refine Bx.al M 8 48 20 (by decide) rfl (by decide) rfl (fun el47 => ?_)
    refine ⟨ir (by omega) (by omega), ir (by omega) (by omega), fun c48 => ?_, fun c48 => ?_⟩
    · refine ⟨Bx.k M 0 (by decide) rfl, ?_⟩
      try rw [show hr h b 3 = b + 8 from Bx.r M 0 3 8 (by decide)]
      refine Bx.as M 8 48 (by decide) rfl rfl (by omega) (by omega) (fun h57 M57 => ?_)
      refine ih _ _ _ M57 (by omega) ?_
      exact H
    · exfalso; omega
theorem L_X5_empty_18 {d b : Nat} {h0 : PH} {Q : Int → PH → Prop} {X : Nat → PH → Prop}  : ∀ (n : Nat) (i : Int) (EP : Nat → Int → Int) (h : PH), (Px b h0 h EP) → (0 ≤ i ∧ i + n = 48) → (∀ (x : Int) h', x = 0 → Px b h0 h' (zrw 8 48 0 (zrw 7 n i EP)) → Q x h') → WP k_X5_empty [] (RUN GQ (d + 0)) 0 0 (d + 1) Q X 18 [some (pA b), some (pI i)] [] h 0 0 := by
  intro n
  induction n with
  | zero =>
    intro i EP h M hk0 H
    refine WP.of (RUN.mono GQ _) (cuts := [18, 42]) (n := 400) (v_X5_empty_18 _ _ _ _ _ ?_)
    refine ⟨Bx.k M 0 (by decide) rfl, ?_⟩
    try rw [show hr h b 2 = b + 7 from Bx.r M 0 2 7 (by decide)]
    refine Bx.al M 7 48 20 (by decide) rfl (by decide) rfl (fun el23 => ?_)
    refine ⟨ir (by omega) (by omega), ir (by omega) (by omega), fun c24 => ?_, fun c24 => ?_⟩
    · exfalso; omega
    · refine L_X5_empty_42 (48) _ _ _ M (by omega) ?_
      exact H
  | succ n ih =>
    intro i EP h M hk0 H
    refine WP.of (RUN.mono GQ _) (cuts := [18, 42]) (n := 400) (v_X5_empty_18 _ _ _ _ _ ?_)
    refine ⟨Bx.k M 0 (by decide) rfl, ?_⟩
    try rw [show hr h b 2 = b + 7 from Bx.r M 0 2 7 (by decide)]
    refine Bx.al M 7 48 20 (by decide) rfl (by decide) rfl (fun el23 => ?_)
    refine ⟨ir (by omega) (by omega), ir (by omega) (by omega), fun c24 => ?_, fun c24 => ?_⟩
    · refine ⟨Bx.k M 0 (by decide) rfl, ?_⟩
      try rw [show hr h b 2 = b + 7 from Bx.r M 0 2 7 (by decide)]
      refine Bx.as M 7 48 (by decide) rfl rfl (by omega) (by omega) (fun h33 M33 => ?_)
      refine ih _ _ _ M33 (by omega) ?_
      exact H
    · exfalso; omega
theorem S_X5_empty {d b : Nat} {h0 h : PH} {EP : Nat → Int → Int} {Q : Int → PH → Prop} {X : Nat → PH → Prop} (M : Px b h0 h EP)  (H : ∀ (x : Int) h', x = 0 → Px b h0 h' (zrw 8 48 0 (zrw 7 48 0 (dst (dst EP 1 2 0) 4 2 0))) → Q x h') : RUN GQ (d + 1) m_X5_empty [pA b] h Q X := by
  rw [e_X5_empty]
  refine WP.of (RUN.mono GQ _) (cuts := [18, 42]) (n := 400) (v_X5_empty_0 _ _ _ _ _ ?_)
  refine ⟨Bx.k M 0 (by decide) rfl, ?_⟩
  try rw [show hr h b 0 = b + 1 from Bx.r M 0 0 1 (by decide)]
  refine Bx.pf2 M 1 3 (by decide) rfl (fun h5 M5 => ?_)
  refine ⟨Bx.k M5 0 (by decide) rfl, ?_⟩
  try rw [show hr h5 b 1 = b + 4 from Bx.r M5 0 1 4 (by decide)]
  refine Bx.pf2 M5 4 3 (by decide) rfl (fun h13 M13 => ?_)
  refine L_X5_empty_18 (48) _ _ _ M13 (by omega) ?_
  exact H
theorem S_X5_addHandler {d b : Nat} {h0 h : PH} {EP : Nat → Int → Int} {Q : Int → PH → Prop} {X : Nat → PH → Prop} {p k t : Int} (M : Px b h0 h EP) (hp : 0 ≤ p ∧ p < 6) (hkx : 0 ≤ k ∧ k < 8) (H : ∀ (x : Int) h', x = 0 → Px b h0 h' (dst EP 7 (p * 8 + k) t) → Q x h') : RUN GQ (d + 1) m_X5_addHandler [pA b, pI p, pI k, pI t] h Q X := by
  rw [e_X5_addHandler]
  refine WP.of (RUN.mono GQ _) (cuts := []) (n := 400) (v_X5_addHandler_0 _ _ _ _ _ _ _ _ ?_)
  refine ⟨ir (by omega) (by omega), fun c10 => ?_, fun c10 => ?_⟩
  · first
    | (exfalso; omega)
    | (refine H _ _ ?_ ?_
       · first | rfl | omega
       · exact M)
  · refine ⟨Bx.k M 0 (by decide) rfl, ?_⟩
    try rw [show hr h b 2 = b + 7 from Bx.r M 0 2 7 (by decide)]
    refine Bx.al M 7 48 20 (by decide) rfl (by decide) rfl (fun el19 => ?_)
    refine ⟨ir (by omega) (by omega), ir (by omega) (by omega), fun c20 => ?_, fun c20 => ?_⟩
    · refine ⟨Bx.k M 0 (by decide) rfl, ?_⟩
      try rw [show hr h b 2 = b + 7 from Bx.r M 0 2 7 (by decide)]
      refine Bx.as M 7 48 (by decide) rfl rfl (by omega) (by omega) (fun h30 M30 => ?_)
      first
      | (exfalso; omega)
      | (refine H _ _ ?_ ?_
         · first | rfl | omega
         · exact M30)
    · first
      | (exfalso; omega)
      | (refine H _ _ ?_ ?_
         · first | rfl | omega
         · exact M)
theorem S_X5_addAct {d b : Nat} {h0 h : PH} {EP : Nat → Int → Int} {Q : Int → PH → Prop} {X : Nat → PH → Prop} {p k ty ak ap pl : Int} (M : Px b h0 h EP) (hp : 0 ≤ p ∧ p < 6) (hkx : 0 ≤ k ∧ k < 8) (h8 : 0 ≤ EP 8 (p * 8 + k) ∧ EP 8 (p * 8 + k) < 4) (H : ∀ (x : Int) h', x = 0 → Px b h0 h' (dst (dst (dst (dst (dst EP 9 (((p * 8 + k) * 4 + EP 8 (p * 8 + k)) * 4 + 0) ty) 9 (((p * 8 + k) * 4 + EP 8 (p * 8 + k)) * 4 + 1) ak) 9 (((p * 8 + k) * 4 + EP 8 (p * 8 + k)) * 4 + 2) ap) 9 (((p * 8 + k) * 4 + EP 8 (p * 8 + k)) * 4 + 3) pl) 8 (p * 8 + k) (EP 8 (p * 8 + k) + 1)) → Q x h') : RUN GQ (d + 1) m_X5_addAct [pA b, pI p, pI k, pI ty, pI ak, pI ap, pI pl] h Q X := by
  rw [e_X5_addAct]
  refine WP.of (RUN.mono GQ _) (cuts := []) (n := 400) (v_X5_addAct_0 _ _ _ _ _ _ _ _ _ _ _ _ ?_)
  refine ⟨ir (by omega) (by omega), fun c10 => ?_, fun c10 => ?_⟩
  · first
    | (exfalso; omega)
    | (refine H _ _ ?_ ?_
       · first | rfl | omega
       · exact M)
  · refine ⟨Bx.k M 0 (by decide) rfl, ?_⟩
    try rw [show hr h b 3 = b + 8 from Bx.r M 0 3 8 (by decide)]
    refine Bx.al M 8 48 20 (by decide) rfl (by decide) rfl (fun el19 => ?_)
    refine ⟨ir (by omega) (by omega), ir (by omega) (by omega), fun c20 => ?_, fun c20 => ?_⟩
    · refine ⟨Bx.k M 0 (by decide) rfl, ?_⟩
      try rw [show hr h b 3 = b + 8 from Bx.r M 0 3 8 (by decide)]
      refine Bx.ld M 8 48 (by decide) rfl rfl (by omega) (by omega) (fun er => ?_)
      try rw [er]
      clear er
      refine ⟨ir (by omega) (by omega), fun c42 => ?_, fun c42 => ?_⟩
      · first
        | (exfalso; omega)
        | (refine H _ _ ?_ ?_
           · first | rfl | omega
           · exact M)
      · refine ⟨Bx.k M 0 (by decide) rfl, ?_⟩
        try rw [show hr h b 4 = b + 9 from Bx.r M 0 4 9 (by decide)]
        refine Bx.al M 9 768 20 (by decide) rfl (by decide) rfl (fun el53 => ?_)
        refine ⟨ir (by omega) (by omega), ir (by omega) (by omega), fun c54 => ?_, fun c54 => ?_⟩
        · refine ⟨Bx.k M 0 (by decide) rfl, ?_⟩
          try rw [show hr h b 4 = b + 9 from Bx.r M 0 4 9 (by decide)]
          refine Bx.as M 9 768 (by decide) rfl rfl (by omega) (by omega) (fun h67 M67 => ?_)
          refine ⟨Bx.k M67 0 (by decide) rfl, ?_⟩
          try rw [show hr h67 b 4 = b + 9 from Bx.r M67 0 4 9 (by decide)]
          refine Bx.as M67 9 768 (by decide) rfl rfl (by omega) (by omega) (fun h78 M78 => ?_)
          refine ⟨Bx.k M78 0 (by decide) rfl, ?_⟩
          try rw [show hr h78 b 4 = b + 9 from Bx.r M78 0 4 9 (by decide)]
          refine Bx.as M78 9 768 (by decide) rfl rfl (by omega) (by omega) (fun h89 M89 => ?_)
          refine ⟨Bx.k M89 0 (by decide) rfl, ?_⟩
          try rw [show hr h89 b 4 = b + 9 from Bx.r M89 0 4 9 (by decide)]
          refine Bx.as M89 9 768 (by decide) rfl rfl (by omega) (by omega) (fun h100 M100 => ?_)
          refine ⟨Bx.k M100 0 (by decide) rfl, ?_⟩
          try rw [show hr h100 b 3 = b + 8 from Bx.r M100 0 3 8 (by decide)]
          refine Bx.ld M100 8 48 (by decide) rfl rfl (by omega) (by omega) (fun er => ?_)
          try rw [er]
          clear er
          refine Bx.as M100 8 48 (by decide) rfl rfl (by omega) (by omega) (fun h111 M111 => ?_)
          first
          | (exfalso; omega)
          | (refine H _ _ ?_ ?_
             · first | rfl | omega
             · exact M111)
        · first
          | (exfalso; omega)
          | (refine H _ _ ?_ ?_
             · first | rfl | omega
             · exact M)
    · first
      | (exfalso; omega)
      | (refine H _ _ ?_ ?_
         · first | rfl | omega
         · exact M)
theorem L_X2_add_k_44 {d b : Nat} {h0 : PH} {Q : Int → PH → Prop} {X : Nat → PH → Prop} {D : Nat → Int → Int} {K fr m : Int} (F : BFR h0 D) (hd : 66 ≤ b) (hB : BY D) (hK : 0 ≤ K ∧ K < 8) (hm : 1 ≤ m ∧ m ≤ 7) (hfr : 0 ≤ fr ∧ fr + m ≤ 700) : ∀ (n : Nat) (i : Int) (EP : Nat → Int → Int) (h : PH), (Px b h0 h EP) → (0 ≤ i ∧ i + n = m) → (EP 1 2 = K) → (∀ (x : Int) h', x = 0 → Px b h0 h' (dst (awl 3 D K fr n i EP) 1 2 (K + 1)) → Q x h') → WP k_X2_add [] (RUN GQ (d + 0)) 0 0 (d + 1) Q X 44 [some (pA (b + 1)), some (pA 65), some (pI fr), some (pI m), some (pI i)] [] h 0 0 := by
  intro n
  induction n with
  | zero =>
    intro i EP h M hk0 hK1 H
    refine WP.of (RUN.mono GQ _) (cuts := [44]) (n := 400) (v_X2_add_44 _ _ _ _ _ _ _ _ ?_)
    refine ⟨ir (by omega) (by omega), ir (by omega) (by omega), fun c47 => ?_, fun c47 => ?_⟩
    · exfalso; omega
    · refine ⟨Bx.k M 1 (by decide) rfl, ?_⟩
      try rw [show hi h (b + 1) 2 = _ from Bx.f2 M 1 (by decide)]
      try rw [hK1]
      refine Bx.pf2 M 1 3 (by decide) rfl (fun h84 M84 => ?_)
      first | (exfalso; omega) | (exact H _ _ rfl M84)
  | succ n ih =>
    intro i EP h M hk0 hK1 H
    refine WP.of (RUN.mono GQ _) (cuts := [44]) (n := 400) (v_X2_add_44 _ _ _ _ _ _ _ _ ?_)
    refine ⟨ir (by omega) (by omega), ir (by omega) (by omega), fun c47 => ?_, fun c47 => ?_⟩
    · refine ⟨Bx.k M 1 (by decide) rfl, ?_⟩
      try rw [show hr h (b + 1) 1 = b + 3 from Bx.r M 1 1 3 (by decide)]
      refine ⟨Bx.k M 1 (by decide) rfl, ?_⟩
      try rw [show hi h (b + 1) 2 = _ from Bx.f2 M 1 (by decide)]
      try rw [hK1]
      refine ⟨(F.sa M.2.1 hd).1, ⟨by omega, by rw [(F.sa M.2.1 hd).2.1]; omega⟩, ?_⟩
      rw [(F.sa M.2.1 hd).2.2 _ (by omega) (by omega)]
      refine Bx.asb M 3 56 (by decide) rfl rfl (by omega) (by omega) (fun h70 M70 => ?_)
      rw [bi2b_id (sgb_rng (hB _ (by omega) (by omega)))] at M70
      refine ih _ _ _ M70 (by omega) (by first | exact hK1 | (rw [dst_row (by decide)]; exact hK1)) ?_
      exact H
    · exfalso; omega
theorem S_X2_add_k {d b : Nat} {h0 h : PH} {EP : Nat → Int → Int} {Q : Int → PH → Prop} {X : Nat → PH → Prop} {D : Nat → Int → Int} {K : Int} {fr m : Int} (M : Px b h0 h EP) (F : BFR h0 D) (hd : 66 ≤ b) (hB : BY D) (hK1 : EP 1 2 = K) (hK : 0 ≤ K ∧ K < 8) (hm : 1 ≤ m ∧ m ≤ 7) (hfr : 0 ≤ fr ∧ fr + m ≤ 700) (H : ∀ (x : Int) h', x = 0 → Px b h0 h' (dst (awl 3 D K fr m.toNat 0 (dst EP 2 K m)) 1 2 (K + 1)) → Q x h') : RUN GQ (d + 1) m_X2_add [pA (b + 1), pA 65, pI fr, pI m] h Q X := by
  rw [e_X2_add]
  refine WP.of (RUN.mono GQ _) (cuts := [44]) (n := 400) (v_X2_add_0 _ _ _ _ _ _ _ _ ?_)
  refine ⟨Bx.k M 1 (by decide) rfl, ?_⟩
  try rw [show hi h (b + 1) 2 = _ from Bx.f2 M 1 (by decide)]
  try rw [hK1]
  refine ⟨Bx.k M 1 (by decide) rfl, ?_⟩
  try rw [show hr h (b + 1) 0 = b + 2 from Bx.r M 1 0 2 (by decide)]
  refine Bx.al M 2 8 20 (by decide) rfl (by decide) rfl (fun el8 => ?_)
  refine ⟨ir (by omega) (by omega), ir (by omega) (by omega), fun c9 => ?_, fun c9 => ?_⟩
  · refine ⟨ir (by omega) (by omega), ir (by omega) (by omega), fun c15 => ?_, fun c15 => ?_⟩
    · first
      | (exfalso; omega)
      | (refine H _ _ ?_ ?_
         · first | rfl | omega
         · exact M)
    · refine ⟨ir (by omega) (by omega), fun c19 => ?_, fun c19 => ?_⟩
      · first
        | (exfalso; omega)
        | (refine H _ _ ?_ ?_
           · first | rfl | omega
           · exact M)
      · refine ⟨by rw [(F.sa M.2.1 hd).1]; omega, ?_⟩
        rw [(F.sa M.2.1 hd).2.1]
        refine ⟨ir (by omega) (by omega), ir (by omega) (by omega), fun c27 => ?_, fun c27 => ?_⟩
        · first
          | (exfalso; omega)
          | (refine H _ _ ?_ ?_
             · first | rfl | omega
             · exact M)
        · refine ⟨Bx.k M 1 (by decide) rfl, ?_⟩
          try rw [show hr h (b + 1) 0 = b + 2 from Bx.r M 1 0 2 (by decide)]
          refine ⟨Bx.k M 1 (by decide) rfl, ?_⟩
          try rw [show hi h (b + 1) 2 = _ from Bx.f2 M 1 (by decide)]
          try rw [hK1]
          refine Bx.as M 2 8 (by decide) rfl rfl (by omega) (by omega) (fun h40 M40 => ?_)
          refine L_X2_add_k_44 F hd hB hK hm hfr (m.toNat) _ _ _ M40 (by omega) (by first | exact hK1 | (rw [dst_row (by decide)]; exact hK1)) ?_
          exact H
  · first
    | (exfalso; omega)
    | (refine H _ _ ?_ ?_
       · first | rfl | omega
       · exact M)
theorem L_X2_add_p_44 {d b : Nat} {h0 : PH} {Q : Int → PH → Prop} {X : Nat → PH → Prop} {D : Nat → Int → Int} {K fr m : Int} (F : BFR h0 D) (hd : 66 ≤ b) (hB : BY D) (hK : 0 ≤ K ∧ K < 8) (hm : 1 ≤ m ∧ m ≤ 7) (hfr : 0 ≤ fr ∧ fr + m ≤ 700) : ∀ (n : Nat) (i : Int) (EP : Nat → Int → Int) (h : PH), (Px b h0 h EP) → (0 ≤ i ∧ i + n = m) → (EP 4 2 = K) → (∀ (x : Int) h', x = 0 → Px b h0 h' (dst (awl 6 D K fr n i EP) 4 2 (K + 1)) → Q x h') → WP k_X2_add [] (RUN GQ (d + 0)) 0 0 (d + 1) Q X 44 [some (pA (b + 4)), some (pA 65), some (pI fr), some (pI m), some (pI i)] [] h 0 0 := by
  intro n
  induction n with
  | zero =>
    intro i EP h M hk0 hK1 H
    refine WP.of (RUN.mono GQ _) (cuts := [44]) (n := 400) (v_X2_add_44 _ _ _ _ _ _ _ _ ?_)
    refine ⟨ir (by omega) (by omega), ir (by omega) (by omega), fun c47 => ?_, fun c47 => ?_⟩
    · exfalso; omega
    · refine ⟨Bx.k M 4 (by decide) rfl, ?_⟩
      try rw [show hi h (b + 4) 2 = _ from Bx.f2 M 4 (by decide)]
      try rw [hK1]
      refine Bx.pf2 M 4 3 (by decide) rfl (fun h84 M84 => ?_)
      first | (exfalso; omega) | (exact H _ _ rfl M84)
  | succ n ih =>
    intro i EP h M hk0 hK1 H
    refine WP.of (RUN.mono GQ _) (cuts := [44]) (n := 400) (v_X2_add_44 _ _ _ _ _ _ _ _ ?_)
    refine ⟨ir (by omega) (by omega), ir (by omega) (by omega), fun c47 => ?_, fun c47 => ?_⟩
    · refine ⟨Bx.k M 4 (by decide) rfl, ?_⟩
      try rw [show hr h (b + 4) 1 = b + 6 from Bx.r M 4 1 6 (by decide)]
      refine ⟨Bx.k M 4 (by decide) rfl, ?_⟩
      try rw [show hi h (b + 4) 2 = _ from Bx.f2 M 4 (by decide)]
      try rw [hK1]
      refine ⟨(F.sa M.2.1 hd).1, ⟨by omega, by rw [(F.sa M.2.1 hd).2.1]; omega⟩, ?_⟩
      rw [(F.sa M.2.1 hd).2.2 _ (by omega) (by omega)]
      refine Bx.asb M 6 56 (by decide) rfl rfl (by omega) (by omega) (fun h70 M70 => ?_)
      rw [bi2b_id (sgb_rng (hB _ (by omega) (by omega)))] at M70
      refine ih _ _ _ M70 (by omega) (by first | exact hK1 | (rw [dst_row (by decide)]; exact hK1)) ?_
      exact H
    · exfalso; omega
theorem S_X2_add_p {d b : Nat} {h0 h : PH} {EP : Nat → Int → Int} {Q : Int → PH → Prop} {X : Nat → PH → Prop} {D : Nat → Int → Int} {K : Int} {fr m : Int} (M : Px b h0 h EP) (F : BFR h0 D) (hd : 66 ≤ b) (hB : BY D) (hK1 : EP 4 2 = K) (hK : 0 ≤ K ∧ K < 8) (hm : 1 ≤ m ∧ m ≤ 7) (hfr : 0 ≤ fr ∧ fr + m ≤ 700) (H : ∀ (x : Int) h', x = 0 → Px b h0 h' (dst (awl 6 D K fr m.toNat 0 (dst EP 5 K m)) 4 2 (K + 1)) → Q x h') : RUN GQ (d + 1) m_X2_add [pA (b + 4), pA 65, pI fr, pI m] h Q X := by
  rw [e_X2_add]
  refine WP.of (RUN.mono GQ _) (cuts := [44]) (n := 400) (v_X2_add_0 _ _ _ _ _ _ _ _ ?_)
  refine ⟨Bx.k M 4 (by decide) rfl, ?_⟩
  try rw [show hi h (b + 4) 2 = _ from Bx.f2 M 4 (by decide)]
  try rw [hK1]
  refine ⟨Bx.k M 4 (by decide) rfl, ?_⟩
  try rw [show hr h (b + 4) 0 = b + 5 from Bx.r M 4 0 5 (by decide)]
  refine Bx.al M 5 8 20 (by decide) rfl (by decide) rfl (fun el8 => ?_)
  refine ⟨ir (by omega) (by omega), ir (by omega) (by omega), fun c9 => ?_, fun c9 => ?_⟩
  · refine ⟨ir (by omega) (by omega), ir (by omega) (by omega), fun c15 => ?_, fun c15 => ?_⟩
    · first
      | (exfalso; omega)
      | (refine H _ _ ?_ ?_
         · first | rfl | omega
         · exact M)
    · refine ⟨ir (by omega) (by omega), fun c19 => ?_, fun c19 => ?_⟩
      · first
        | (exfalso; omega)
        | (refine H _ _ ?_ ?_
           · first | rfl | omega
           · exact M)
      · refine ⟨by rw [(F.sa M.2.1 hd).1]; omega, ?_⟩
        rw [(F.sa M.2.1 hd).2.1]
        refine ⟨ir (by omega) (by omega), ir (by omega) (by omega), fun c27 => ?_, fun c27 => ?_⟩
        · first
          | (exfalso; omega)
          | (refine H _ _ ?_ ?_
             · first | rfl | omega
             · exact M)
        · refine ⟨Bx.k M 4 (by decide) rfl, ?_⟩
          try rw [show hr h (b + 4) 0 = b + 5 from Bx.r M 4 0 5 (by decide)]
          refine ⟨Bx.k M 4 (by decide) rfl, ?_⟩
          try rw [show hi h (b + 4) 2 = _ from Bx.f2 M 4 (by decide)]
          try rw [hK1]
          refine Bx.as M 5 8 (by decide) rfl rfl (by omega) (by omega) (fun h40 M40 => ?_)
          refine L_X2_add_p_44 F hd hB hK hm hfr (m.toNat) _ _ _ M40 (by omega) (by first | exact hK1 | (rw [dst_row (by decide)]; exact hK1)) ?_
          exact H
  · first
    | (exfalso; omega)
    | (refine H _ _ ?_ ?_
       · first | rfl | omega
       · exact M)
