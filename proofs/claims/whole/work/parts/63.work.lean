/-! the model's working (written by wip/whole/tools/eng.py) -/
section VCS
variable {call : PC} {mc ms fr : Nat} {Q : Int → PH → Prop} {X : Nat → PH → Prop} {K : PK}
set_option maxRecDepth 100000 in
theorem v_X7_does_0 (a0 : Nat) (i1 : Int) (i2 : Int) (i3 : Int) (z4 : Option PV) (z5 : Option PV) (h : PH) (c s : Nat) (H : hk h a0 = 8 ∧ (hk h (hr h a0 10) = 20 ∨ hk h (hr h a0 10) = 26) ∧ (0 ≤ (i2 + 1) ∧ (i2 + 1) < (hl h (hr h a0 10) : Int)) ∧ hk h a0 = 8 ∧ (hk h (hr h a0 10) = 20 ∨ hk h (hr h a0 10) = 26) ∧ (0 ≤ i2 ∧ i2 < (hl h (hr h a0 10) : Int)) ∧ InR (hi h (hr h a0 10) (Int.toNat i2)) ∧ ((hi h (hr h a0 10) (Int.toNat i2)) < 0 ∨ 2 < (hi h (hr h a0 10) (Int.toNat i2)) →
 hk h a0 = 8 ∧ call m_X7_drops [pA a0, pI i1, pI (hi h (hr h a0 10) (Int.toNat ((i2 + 1))))] h (fun x1 h1 =>
 Q 0 h1) X) ∧
((hi h (hr h a0 10) (Int.toNat i2)) = 0 →
 hk h a0 = 8 ∧ (hk h (hr h a0 10) = 20 ∨ hk h (hr h a0 10) = 26) ∧ (0 ≤ (i2 + 2) ∧ (i2 + 2) < (hl h (hr h a0 10) : Int)) ∧ hk h a0 = 8 ∧ (hk h (hr h a0 10) = 20 ∨ hk h (hr h a0 10) = 26) ∧ (0 ≤ (i2 + 3) ∧ (i2 + 3) < (hl h (hr h a0 10) : Int)) ∧ InR (i3 + (hi h (hr h a0 10) (Int.toNat ((i2 + 3))))) ∧ InR 1000 ∧ (1000 : Int) ≠ 0 ∧ hk h a0 = 8 ∧ call m_X7_sends [pA a0, pI (hi h (hr h a0 10) (Int.toNat ((i2 + 2)))), pI (hi h (hr h a0 10) (Int.toNat ((i2 + 1)))), pI (Int.tmod (i3 + (hi h (hr h a0 10) (Int.toNat ((i2 + 3))))) 1000), pI i1] h (fun _ h2 =>
 Q 0 h2) X) ∧
((hi h (hr h a0 10) (Int.toNat i2)) = 1 →
 hk h a0 = 8 ∧ (hk h (hr h a0 11) = 20 ∨ hk h (hr h a0 11) = 26) ∧ (0 ≤ (85 + i1) ∧ (85 + i1) < (hl h (hr h a0 11) : Int)) ∧ hk h (hr h a0 11) = 20 ∧ (0 ≤ (85 + i1) ∧ (85 + i1) < (hl h (hr h a0 11) : Int)) ∧ ∀ h3, h3 = hsi h (hr h a0 11) (Int.toNat ((85 + i1))) (bor (hi h (hr h a0 11) (Int.toNat ((85 + i1)))) (bshl 1 (hi h (hr h a0 10) (Int.toNat ((i2 + 1)))))) →
 Q 0 h3) ∧
((hi h (hr h a0 10) (Int.toNat i2)) = 2 →
 hk h a0 = 8 ∧ (hk h (hr h a0 11) = 20 ∨ hk h (hr h a0 11) = 26) ∧ (0 ≤ (85 + i1) ∧ (85 + i1) < (hl h (hr h a0 11) : Int)) ∧ hk h (hr h a0 11) = 20 ∧ (0 ≤ (85 + i1) ∧ (85 + i1) < (hl h (hr h a0 11) : Int)) ∧ ∀ h4, h4 = hsi h (hr h a0 11) (Int.toNat ((85 + i1))) (band (hi h (hr h a0 11) (Int.toNat ((85 + i1)))) (bxor (bshl 1 (hi h (hr h a0 10) (Int.toNat ((i2 + 1))))) ((-1)))) →
 Q 0 h4) ∧ True) : wpc k_X7_does [] call mc ms fr Q X [] K 400 (pto 0 k_X7_does) [some (pA a0), some (pI i1), some (pI i2), some (pI i3), z4, z5] [] h c s :=
  H
set_option maxRecDepth 100000 in
theorem v_X7_works_0 (a0 : Nat) (i1 : Int) (z2 : Option PV) (z3 : Option PV) (z4 : Option PV) (z5 : Option PV) (z6 : Option PV) (z7 : Option PV) (z8 : Option PV) (h : PH) (c s : Nat) (H : hk h a0 = 8 ∧ (hk h (hr h a0 11) = 20 ∨ hk h (hr h a0 11) = 26) ∧ (0 ≤ (511 + i1) ∧ (511 + i1) < (hl h (hr h a0 11) : Int)) ∧ InR (hi h (hr h a0 11) (Int.toNat ((511 + i1)))) ∧ ((hi h (hr h a0 11) (Int.toNat ((511 + i1)))) = 0 →
 Q 0 h) ∧
((hi h (hr h a0 11) (Int.toNat ((511 + i1)))) ≠ 0 →
 hk h a0 = 8 ∧ (hk h (hr h a0 11) = 20 ∨ hk h (hr h a0 11) = 26) ∧ (0 ≤ (511 + i1) ∧ (511 + i1) < (hl h (hr h a0 11) : Int)) ∧ hk h a0 = 8 ∧ (hk h (hr h a0 11) = 20 ∨ hk h (hr h a0 11) = 26) ∧ (0 ≤ ((517 + (6 * ((4 * i1) + ((hi h (hr h a0 11) (Int.toNat ((511 + i1)))) - 1)))) + 3) ∧ ((517 + (6 * ((4 * i1) + ((hi h (hr h a0 11) (Int.toNat ((511 + i1)))) - 1)))) + 3) < (hl h (hr h a0 11) : Int)) ∧ hk h (hr h a0 11) = 20 ∧ (0 ≤ ((517 + (6 * ((4 * i1) + ((hi h (hr h a0 11) (Int.toNat ((511 + i1)))) - 1)))) + 3) ∧ ((517 + (6 * ((4 * i1) + ((hi h (hr h a0 11) (Int.toNat ((511 + i1)))) - 1)))) + 3) < (hl h (hr h a0 11) : Int)) ∧ ∀ h1, h1 = hsi h (hr h a0 11) (Int.toNat (((517 + (6 * ((4 * i1) + ((hi h (hr h a0 11) (Int.toNat ((511 + i1)))) - 1)))) + 3))) ((hi h (hr h a0 11) (Int.toNat (((517 + (6 * ((4 * i1) + ((hi h (hr h a0 11) (Int.toNat ((511 + i1)))) - 1)))) + 3)))) - 1) →
 hk h1 a0 = 8 ∧ (hk h1 (hr h1 a0 11) = 20 ∨ hk h1 (hr h1 a0 11) = 26) ∧ (0 ≤ ((517 + (6 * ((4 * i1) + ((hi h (hr h a0 11) (Int.toNat ((511 + i1)))) - 1)))) + 3) ∧ ((517 + (6 * ((4 * i1) + ((hi h (hr h a0 11) (Int.toNat ((511 + i1)))) - 1)))) + 3) < (hl h1 (hr h1 a0 11) : Int)) ∧ InR (hi h1 (hr h1 a0 11) (Int.toNat (((517 + (6 * ((4 * i1) + ((hi h (hr h a0 11) (Int.toNat ((511 + i1)))) - 1)))) + 3)))) ∧ (0 < (hi h1 (hr h1 a0 11) (Int.toNat (((517 + (6 * ((4 * i1) + ((hi h (hr h a0 11) (Int.toNat ((511 + i1)))) - 1)))) + 3)))) →
 Q 0 h1) ∧
((hi h1 (hr h1 a0 11) (Int.toNat (((517 + (6 * ((4 * i1) + ((hi h (hr h a0 11) (Int.toNat ((511 + i1)))) - 1)))) + 3)))) ≤ 0 →
 hk h1 a0 = 8 ∧ (hk h1 (hr h1 a0 11) = 20 ∨ hk h1 (hr h1 a0 11) = 26) ∧ (0 ≤ ((517 + (6 * ((4 * i1) + ((hi h (hr h a0 11) (Int.toNat ((511 + i1)))) - 1)))) + 0) ∧ ((517 + (6 * ((4 * i1) + ((hi h (hr h a0 11) (Int.toNat ((511 + i1)))) - 1)))) + 0) < (hl h1 (hr h1 a0 11) : Int)) ∧ hk h1 a0 = 8 ∧ (hk h1 (hr h1 a0 11) = 20 ∨ hk h1 (hr h1 a0 11) = 26) ∧ (0 ≤ ((517 + (6 * ((4 * i1) + ((hi h (hr h a0 11) (Int.toNat ((511 + i1)))) - 1)))) + 1) ∧ ((517 + (6 * ((4 * i1) + ((hi h (hr h a0 11) (Int.toNat ((511 + i1)))) - 1)))) + 1) < (hl h1 (hr h1 a0 11) : Int)) ∧ hk h1 a0 = 8 ∧ (hk h1 (hr h1 a0 11) = 20 ∨ hk h1 (hr h1 a0 11) = 26) ∧ (0 ≤ ((517 + (6 * ((4 * i1) + ((hi h (hr h a0 11) (Int.toNat ((511 + i1)))) - 1)))) + 4) ∧ ((517 + (6 * ((4 * i1) + ((hi h (hr h a0 11) (Int.toNat ((511 + i1)))) - 1)))) + 4) < (hl h1 (hr h1 a0 11) : Int)) ∧ hk h1 a0 = 8 ∧ (hk h1 (hr h1 a0 11) = 20 ∨ hk h1 (hr h1 a0 11) = 26) ∧ (0 ≤ (3 : Int) ∧ (3 : Int) < (hl h1 (hr h1 a0 11) : Int)) ∧ hk h1 a0 = 8 ∧ (hk h1 (hr h1 a0 11) = 20 ∨ hk h1 (hr h1 a0 11) = 26) ∧ (0 ≤ (0 : Int) ∧ (0 : Int) < (hl h1 (hr h1 a0 11) : Int)) ∧ hk h1 a0 = 8 ∧ (hk h1 (hr h1 a0 11) = 20 ∨ hk h1 (hr h1 a0 11) = 26) ∧ (0 ≤ ((517 + (6 * ((4 * i1) + ((hi h (hr h a0 11) (Int.toNat ((511 + i1)))) - 1)))) + 5) ∧ ((517 + (6 * ((4 * i1) + ((hi h (hr h a0 11) (Int.toNat ((511 + i1)))) - 1)))) + 5) < (hl h1 (hr h1 a0 11) : Int)) ∧ hk h1 (hr h1 a0 11) = 20 ∧ (0 ≤ (3 : Int) ∧ (3 : Int) < (hl h1 (hr h1 a0 11) : Int)) ∧ ∀ h2, h2 = hsi h1 (hr h1 a0 11) (Int.toNat (3 : Int)) ((hi h1 (hr h1 a0 11) (Int.toNat (3 : Int))) + ((hi h1 (hr h1 a0 11) (Int.toNat (0 : Int))) - (hi h1 (hr h1 a0 11) (Int.toNat (((517 + (6 * ((4 * i1) + ((hi h (hr h a0 11) (Int.toNat ((511 + i1)))) - 1)))) + 5)))))) →
 hk h2 a0 = 8 ∧ hk h2 (hr h2 a0 11) = 20 ∧ (0 ≤ (511 + i1) ∧ (511 + i1) < (hl h2 (hr h2 a0 11) : Int)) ∧ ∀ h3, h3 = hsi h2 (hr h2 a0 11) (Int.toNat ((511 + i1))) ((hi h (hr h a0 11) (Int.toNat ((511 + i1)))) - 1) →
 hk h3 a0 = 8 ∧ hk h3 a0 = 8 ∧ call m_X7_tiredOf [pA a0, pI i1, pI (hi h1 (hr h1 a0 11) (Int.toNat (((517 + (6 * ((4 * i1) + ((hi h (hr h a0 11) (Int.toNat ((511 + i1)))) - 1)))) + 1))))] h3 (fun x4 h4 =>
 hk h4 a0 = 8 ∧ call m_X7_ofKind [pA a0, pI (hi h1 (hr h1 a0 11) (Int.toNat (((517 + (6 * ((4 * i1) + ((hi h (hr h a0 11) (Int.toNat ((511 + i1)))) - 1)))) + 1)))), pI 1] h4 (fun x5 h5 =>
 InR 99 ∧ InR (x4 + x5) ∧ hk h5 (hr h3 a0 11) = 20 ∧ (0 ≤ ((37 + (8 * i1)) + (hi h1 (hr h1 a0 11) (Int.toNat (((517 + (6 * ((4 * i1) + ((hi h (hr h a0 11) (Int.toNat ((511 + i1)))) - 1)))) + 1))))) ∧ ((37 + (8 * i1)) + (hi h1 (hr h1 a0 11) (Int.toNat (((517 + (6 * ((4 * i1) + ((hi h (hr h a0 11) (Int.toNat ((511 + i1)))) - 1)))) + 1))))) < (hl h5 (hr h3 a0 11) : Int)) ∧ ∀ h6, h6 = hsi h5 (hr h3 a0 11) (Int.toNat (((37 + (8 * i1)) + (hi h1 (hr h1 a0 11) (Int.toNat (((517 + (6 * ((4 * i1) + ((hi h (hr h a0 11) (Int.toNat ((511 + i1)))) - 1)))) + 1))))))) (if 99 ≤ (x4 + x5) then 99 else (x4 + x5)) →
 hk h6 a0 = 8 ∧ call m_X7_ends [pA a0, pI (hi h1 (hr h1 a0 11) (Int.toNat (((517 + (6 * ((4 * i1) + ((hi h (hr h a0 11) (Int.toNat ((511 + i1)))) - 1)))) + 0)))), pI 0, pI i1, pI (hi h1 (hr h1 a0 11) (Int.toNat (((517 + (6 * ((4 * i1) + ((hi h (hr h a0 11) (Int.toNat ((511 + i1)))) - 1)))) + 1))))] h6 (fun _ h7 =>
 K 186 [some (pA a0), some (pI i1), some (pI ((hi h (hr h a0 11) (Int.toNat ((511 + i1)))) - 1)), some (pI (517 + (6 * ((4 * i1) + ((hi h (hr h a0 11) (Int.toNat ((511 + i1)))) - 1))))), some (pI (hi h1 (hr h1 a0 11) (Int.toNat (((517 + (6 * ((4 * i1) + ((hi h (hr h a0 11) (Int.toNat ((511 + i1)))) - 1)))) + 0))))), some (pI (hi h1 (hr h1 a0 11) (Int.toNat (((517 + (6 * ((4 * i1) + ((hi h (hr h a0 11) (Int.toNat ((511 + i1)))) - 1)))) + 1))))), some (pI (hi h1 (hr h1 a0 11) (Int.toNat (((517 + (6 * ((4 * i1) + ((hi h (hr h a0 11) (Int.toNat ((511 + i1)))) - 1)))) + 4))))), some (pI ((8 * i1) + (hi h1 (hr h1 a0 11) (Int.toNat (((517 + (6 * ((4 * i1) + ((hi h (hr h a0 11) (Int.toNat ((511 + i1)))) - 1)))) + 1)))))), some (pI 0)] [] h7 c s) X) X) X))) : wpc k_X7_works [] call mc ms fr Q X [186] K 400 (pto 0 k_X7_works) [some (pA a0), some (pI i1), z2, z3, z4, z5, z6, z7, z8] [] h c s :=
  H
set_option maxRecDepth 100000 in
theorem v_X7_works_186 (a0 : Nat) (i1 : Int) (i2 : Int) (i3 : Int) (i4 : Int) (i5 : Int) (i6 : Int) (i7 : Int) (i8 : Int) (h : PH) (c s : Nat) (H : hk h a0 = 8 ∧ (hk h (hr h a0 9) = 20 ∨ hk h (hr h a0 9) = 26) ∧ (0 ≤ i7 ∧ i7 < (hl h (hr h a0 9) : Int)) ∧ InR i8 ∧ InR (hi h (hr h a0 9) (Int.toNat i7)) ∧ (i8 < (hi h (hr h a0 9) (Int.toNat i7)) →
 hk h a0 = 8 ∧ call m_X7_does [pA a0, pI i1, pI (4 * ((4 * i7) + i8)), pI i6] h (fun _ h1 =>
 K 186 [some (pA a0), some (pI i1), some (pI i2), some (pI i3), some (pI i4), some (pI i5), some (pI i6), some (pI i7), some (pI (i8 + 1))] [] h1 c s) X) ∧
((hi h (hr h a0 9) (Int.toNat i7)) ≤ i8 →
 Q 0 h)) : wpc k_X7_works [] call mc ms fr Q X [186] K 400 (pto 186 k_X7_works) [some (pA a0), some (pI i1), some (pI i2), some (pI i3), some (pI i4), some (pI i5), some (pI i6), some (pI i7), some (pI i8)] [] h c s :=
  H
end VCS
theorem S_X7_does {d b : Nat} {h0 h : PH} {D : Nat → Int → Int} {s : Int → Int} {Q : Int → PH → Prop} {X : Nat → PH → Prop} {N : Int} {hd i : Int} {p a v : Int} (M : Md b h0 h D s) (I : HI (D 0 3) (D 0 4) (D 0 2) N s) (V : PIv D) (hN : N ≤ 1999500000) (hp : 0 ≤ p ∧ p < D 0 4) (ha : a = 4 * (4 * hd + i)) (hh : 0 ≤ hd ∧ hd < 48) (hi : 0 ≤ i ∧ i < D 4 hd) (hv : 0 ≤ v ∧ v < 1000) (H : ∀ (x : Int) h', x = (0) → Md b h0 h' D (e_does D s p a v) → Q x h') : RUN GQ (d + 6) m_X7_does [pA b, pI p, pI a, pI v] h Q X := by
  obtain ⟨v2, v3, v4, vh⟩ := id V
  have hp6 : 0 ≤ p ∧ p < 6 := by omega
  obtain ⟨a1, a2, a3, a4, a5⟩ := (vh hd hh.1 hh.2).2.2 i hi.1 hi.2
  subst ha
  have h4 := (vh hd hh.1 hh.2).2.1
  rw [e_X7_does]
  refine WP.of (RUN.mono GQ _) (cuts := []) (n := 400) (v_X7_does_0 _ _ _ _ _ _ _ _ _ ?_)
  refine ⟨M.k0, ?_⟩
  try rw [M.r10]
  refine M.ld5 (by omega) (by omega) (fun er => ?_)
  try rw [er]
  clear er
  refine ⟨M.k0, ?_⟩
  try rw [M.r10]
  refine M.ld5 (by omega) (by omega) (fun er => ?_)
  try rw [er]
  clear er
  refine ⟨ir (by omega) (by omega), fun c16 => ?_, fun c16 => ?_, fun c16 => ?_, fun c16 => ?_, trivial⟩
  · refine ⟨M.k0, ?_⟩
    refine S_X7_drops M I V (by omega) (by omega) (by omega) (fun x120 h120 e120 M120 => ?_)
    subst e120
    refine H _ _ rfl (M120.cast ?_)
    first | (rw [e_does, if_pos (by omega)]; done) | (rw [e_does, if_neg (by omega), if_pos (by omega)]; done) | (rw [e_does, if_neg (by omega), if_neg (by omega), if_pos (by omega)]; done) | (rw [e_does, if_neg (by omega), if_neg (by omega), if_neg (by omega)]; done)
  · obtain ⟨a6, a7⟩ := a5 c16
    have a8 := tmN (x := v + D 5 (4 * (4 * hd + i) + 3)) (y := 1000) (by omega) (by omega)
    refine ⟨M.k0, ?_⟩
    try rw [M.r10]
    refine M.ld5 (by omega) (by omega) (fun er => ?_)
    try rw [er]
    clear er
    refine ⟨M.k0, ?_⟩
    try rw [M.r10]
    refine M.ld5 (by omega) (by omega) (fun er => ?_)
    try rw [er]
    clear er
    refine ⟨ir (by omega) (by omega), ir (by omega) (by omega), (by omega), ?_⟩
    refine ⟨M.k0, ?_⟩
    refine S_X7_sends M I V (by omega) (by omega) (by omega) (by omega) (by omega) (fun x70 h70 e70 M70 => ?_)
    subst e70
    refine H _ _ rfl (M70.cast ?_)
    first | (rw [e_does, if_pos (by omega)]; done) | (rw [e_does, if_neg (by omega), if_pos (by omega)]; done) | (rw [e_does, if_neg (by omega), if_neg (by omega), if_pos (by omega)]; done) | (rw [e_does, if_neg (by omega), if_neg (by omega), if_neg (by omega)]; done)
  · refine ⟨M.k0, ?_⟩
    try rw [M.r11]
    refine M.ld6 (by omega) (by omega) (fun er => ?_)
    try rw [er]
    clear er
    refine M.as6 (by omega) (by omega) (fun h91 M91 => ?_)
    refine H _ _ rfl (M91.cast ?_)
    first | (rw [e_does, if_pos (by omega)]; done) | (rw [e_does, if_neg (by omega), if_pos (by omega)]; done) | (rw [e_does, if_neg (by omega), if_neg (by omega), if_pos (by omega)]; done) | (rw [e_does, if_neg (by omega), if_neg (by omega), if_neg (by omega)]; done)
  · refine ⟨M.k0, ?_⟩
    try rw [M.r11]
    refine M.ld6 (by omega) (by omega) (fun er => ?_)
    try rw [er]
    clear er
    refine M.as6 (by omega) (by omega) (fun h112 M112 => ?_)
    refine H _ _ rfl (M112.cast ?_)
    first | (rw [e_does, if_pos (by omega)]; done) | (rw [e_does, if_neg (by omega), if_pos (by omega)]; done) | (rw [e_does, if_neg (by omega), if_neg (by omega), if_pos (by omega)]; done) | (rw [e_does, if_neg (by omega), if_neg (by omega), if_neg (by omega)]; done)
theorem L_X7_works_186 {d b : Nat} {h0 : PH} {D : Nat → Int → Int} {Q : Int → PH → Prop} {X : Nat → PH → Prop} {p : Int} {tp a g kd v hd : Int} (V : PIv D) (hp : 0 ≤ p ∧ p < D 0 4) (hh : 0 ≤ hd ∧ hd < 48) (hv : 0 ≤ v ∧ v < 1000) : ∀ (n : Nat) (k : Int) (s : Int → Int) (h : PH) (N : Int), (Md b h0 h D s) → (HI (D 0 3) (D 0 4) (D 0 2) N s) → (0 ≤ k) → (k + n = D 4 hd) → (N + 13 * n ≤ 1999000100) → (∀ (x : Int) h', x = 0 → Md b h0 h' D (e_acl D p hd v n k s) → Q x h') → WP k_X7_works [] (RUN GQ (d + 6)) 0 0 (d + 7) Q X 186 [some (pA b), some (pI p), some (pI tp), some (pI a), some (pI g), some (pI kd), some (pI v), some (pI hd), some (pI k)] [] h 0 0 := by
  intro n
  induction n with
  | zero =>
    intro k s h N M I hk hn hN H
    obtain ⟨v2, v3, v4, vh⟩ := id V
    have hp6 : 0 ≤ p ∧ p < 6 := by omega
    have h4 := (vh hd hh.1 hh.2).2.1
    refine WP.of (RUN.mono GQ _) (cuts := [186]) (n := 400) (v_X7_works_186 _ _ _ _ _ _ _ _ _ _ _ _ ?_)
    refine ⟨M.k0, ?_⟩
    try rw [M.r9]
    refine M.ld4 (by omega) (by omega) (fun er => ?_)
    try rw [er]
    clear er
    refine ⟨ir (by omega) (by omega), ir (by omega) (by omega), fun c195 => ?_, fun c195 => ?_⟩
    · exfalso; omega
    · exact H _ _ rfl M
  | succ n ih =>
    intro k s h N M I hk hn hN H
    obtain ⟨v2, v3, v4, vh⟩ := id V
    have hp6 : 0 ≤ p ∧ p < 6 := by omega
    have h4 := (vh hd hh.1 hh.2).2.1
    refine WP.of (RUN.mono GQ _) (cuts := [186]) (n := 400) (v_X7_works_186 _ _ _ _ _ _ _ _ _ _ _ _ ?_)
    refine ⟨M.k0, ?_⟩
    try rw [M.r9]
    refine M.ld4 (by omega) (by omega) (fun er => ?_)
    try rw [er]
    clear er
    refine ⟨ir (by omega) (by omega), ir (by omega) (by omega), fun c195 => ?_, fun c195 => ?_⟩
    · refine ⟨M.k0, ?_⟩
      refine S_X7_does M I V (by omega) (by omega) (rfl) (by omega) (by omega) (by omega) (fun x211 h211 e211 M211 => ?_)
      subst e211
      have I211 := does_HI (v := v) I V rfl rfl hp hh ⟨hk, by omega⟩ hv
      refine ih _ _ _ _ M211 I211 (by omega) (by omega) (by omega) ?_
      exact H
    · exfalso; omega
theorem S_X7_works {d b : Nat} {h0 h : PH} {D : Nat → Int → Int} {s : Int → Int} {Q : Int → PH → Prop} {X : Nat → PH → Prop} {N : Int} {p : Int} (M : Md b h0 h D s) (I : HI (D 0 3) (D 0 4) (D 0 2) N s) (V : PIv D) (hN : N ≤ 1999000000) (hp : 0 ≤ p ∧ p < D 0 4) (H : ∀ (x : Int) h', x = (0) → Md b h0 h' D (e_wk D s p) → Q x h') : RUN GQ (d + 7) m_X7_works [pA b, pI p] h Q X := by
  obtain ⟨v2, v3, v4, vh⟩ := id V
  have hp6 : 0 ≤ p ∧ p < 6 := by omega
  have q0 := I.sn hp6
  rw [e_X7_works]
  refine WP.of (RUN.mono GQ _) (cuts := [186]) (n := 400) (v_X7_works_0 _ _ _ _ _ _ _ _ _ _ _ _ ?_)
  refine ⟨M.k0, ?_⟩
  try rw [M.r11]
  refine M.ld6 (by omega) (by omega) (fun er => ?_)
  try rw [er]
  clear er
  refine ⟨ir (by omega) (by omega), fun c10 => ?_, fun c10 => ?_⟩
  · refine H _ _ rfl (M.cast ?_)
    rw [e_wk, if_pos c10]
  · have se := I.se hp6 (i := s (511 + p) - 1) ⟨by omega, by omega⟩
    unfold SE sv at se
    refine ⟨M.k0, ?_⟩
    try rw [M.r11]
    refine M.ld6 (by omega) (by omega) (fun er => ?_)
    try rw [er]
    clear er
    generalize hat : 517 + 6 * (4 * p + (s (511 + p) - 1)) = a at se ⊢
    refine ⟨M.k0, ?_⟩
    try rw [M.r11]
    refine M.ld6 (by omega) (by omega) (fun er => ?_)
    try rw [er]
    clear er
    refine M.as6 (by omega) (by omega) (fun h51 M51 => ?_)
    generalize hs1 : ups s (a + 3) (s (a + 3) - 1) = s1 at M51 ⊢
    have n3 : s1 (a + 3) = s (a + 3) - 1 := by rw [← hs1]; exact ups_eq _ _ _
    have ne : ∀ e, e ≠ a + 3 → s1 e = s e := fun e h => by rw [← hs1]; exact ups_ne h
    have n1 := ne (a + 1) (by omega)
    have n4 := ne (a + 4) (by omega)
    have n0 := ne (a + 0) (by omega)
    have n5 := ne (511 + p) (by omega)
    refine ⟨M51.k0, ?_⟩
    try rw [M51.r11]
    refine M51.ld6 (by omega) (by omega) (fun er => ?_)
    try rw [er]
    clear er
    refine ⟨ir (by omega) (by omega), fun c60 => ?_, fun c60 => ?_⟩
    · refine H _ _ rfl (M51.cast ?_)
      subst hat
      rw [e_wk, if_neg c10]
      simp only [hs1]
      rw [if_pos c60]
    · refine ⟨M51.k0, ?_⟩
      try rw [M51.r11]
      refine M51.ld6 (by omega) (by omega) (fun er => ?_)
      try rw [er]
      clear er
      refine ⟨M51.k0, ?_⟩
      try rw [M51.r11]
      refine M51.ld6 (by omega) (by omega) (fun er => ?_)
      try rw [er]
      clear er
      refine ⟨M51.k0, ?_⟩
      try rw [M51.r11]
      refine M51.ld6 (by omega) (by omega) (fun er => ?_)
      try rw [er]
      clear er
      refine ⟨M51.k0, ?_⟩
      try rw [M51.r11]
      refine M51.ld6 (by omega) (by omega) (fun er => ?_)
      try rw [er]
      clear er
      refine ⟨M51.k0, ?_⟩
      try rw [M51.r11]
      refine M51.ld6 (by omega) (by omega) (fun er => ?_)
      try rw [er]
      clear er
      refine ⟨M51.k0, ?_⟩
      try rw [M51.r11]
      refine M51.ld6 (by omega) (by omega) (fun er => ?_)
      try rw [er]
      clear er
      refine M51.as6 (by omega) (by omega) (fun h117 M117 => ?_)
      refine ⟨M117.k0, ?_⟩
      try rw [M117.r11]
      refine M117.as6 (by omega) (by omega) (fun h128 M128 => ?_)
      have MM := Md.cast (s' := e_wkB s1 p a) M128 (by simp only [e_wkB, n5])
      have t1 : td (e_wkB s1 p a) p (s1 (a + 1)) = td s p (s1 (a + 1)) := by unfold td e_wkB; rw [ups_ne (by omega), ups_ne (by omega), ne _ (by omega)]
      have t2 : kn (e_wkB s1 p a) (s1 (a + 1)) 1 = kn s (s1 (a + 1)) 1 := by unfold kn e_wkB; rw [ups_ne (by omega), ups_ne (by omega), ne _ (by omega)]
      have t3 := I.td hp6 (k := s1 (a + 1)) ⟨by omega, by omega⟩
      have t4 := (I.kn (k := s1 (a + 1)) ⟨by omega, by omega⟩).2.1
      have h48 : 0 ≤ 8 * p + s1 (a + 1) ∧ 8 * p + s1 (a + 1) < 48 := by omega
      have hv4 := vh _ h48.1 h48.2
      have J := wk0_HI (r := s1) I (by rw [hat]; exact ne) (by omega) (by omega) hp6 (by omega) (by unfold sv; rw [hat]; exact se.1) (by unfold sv; rw [hat]; exact se.2.1)
      rw [hat] at J
      have e2 := I.e2
      have e1 := I.e1
      have qo := I.ho
      refine ⟨MM.k0, ?_⟩
      try rw [MM.r11]
      refine ⟨MM.k0, ?_⟩
      refine S_X7_tiredOf MM (by omega) (by omega) (fun x149 e149 => ?_)
      subst e149
      refine ⟨MM.k0, ?_⟩
      refine S_X7_ofKind MM (by omega) (by omega) (fun x156 e156 => ?_)
      subst e156
      refine ⟨ir (by omega) (by omega), ir (by omega) (by omega), ?_⟩
      refine MM.as6 (by omega) (by omega) (fun h163 M163 => ?_)
      refine ⟨M163.k0, ?_⟩
      refine S_X7_ends M163 (by omega) (by omega) (by rw [ups_ne (by omega)]; unfold e_wkB; rw [ups_ne (by omega), ups_ne (by omega), ne _ (by omega)]; omega) (by exact ir (by omega) (by omega)) (by rw [ups_ne (by omega)]; unfold e_wkB; rw [ups_ne (by omega), ups_ne (by omega), ne _ (by omega)]; exact qo.2.2.2.1) (fun x171 h171 e171 M171 => ?_)
      subst e171
      refine L_X7_works_186 V hp h48 (by omega) ((D 4 (8 * p + s1 (a + 1))).toNat) _ _ _ _ M171 J (by omega) (by omega) (by omega) ?_
      refine fun x h' e M => H x h' e (M.cast ?_)
      subst hat
      rw [e_wk, if_neg c10]
      simp only [hs1]
      rw [if_neg (by omega)]
      rfl
