/-! the class's reading: tokens -/
def kS : Nat → Nat := fun _ => 5
def lS : Nat → Nat := fun _ => 11
/-- the parser's own cell -/
abbrev Sx (p : Nat) (h0 h : PH) (ES : Nat → Int → Int) : Prop := Bx 1 kS lS [] p h0 h ES
/-- a byte as the class sees it -/
def cb (D : Nat → Int → Int) (i : Int) : Int := if 0 ≤ i ∧ i < D 0 20 then sgb (D 10 i) else -1
theorem cb_bt {D : Nat → Int → Int} (B : BY D) (hL : D 0 20 ≤ 700) {i : Int} (hi' : 0 ≤ i) : (i < D 0 20 ∧ (0 ≤ bt D i ∧ bt D i ≤ 255) ∧ (bt D i < 128 ∧ cb D i = bt D i ∨ 128 ≤ bt D i ∧ cb D i = bt D i - 256)) ∨ (D 0 20 ≤ i ∧ bt D i = -1 ∧ cb D i = -1) := by
  unfold bt cb
  by_cases c : i < D 0 20
  · rw [if_pos c, if_pos ⟨hi', c⟩]
    have q := B i hi' (by omega)
    refine Or.inl ⟨c, q, ?_⟩
    unfold sgb
    split <;> omega
  · rw [if_neg c, if_neg (by omega)]
    exact Or.inr ⟨by omega, rfl, rfl⟩
theorem cb_rng {D : Nat → Int → Int} (B : BY D) (hL : D 0 20 ≤ 700) (i : Int) : -128 ≤ cb D i ∧ cb D i ≤ 127 := by
  unfold cb
  split
  · exact sgb_rng (B i (by omega) (by omega))
  · omega
/-- the digits' number, however many they are -/
def nvl (D : Nat → Int → Int) : Nat → Int → Int → Int
  | 0, _, a => a
  | n + 1, p, a => if isD (bt D p) then nvl D n (p + 1) (a * 10 + bt D p - 48) else a
theorem nvl_dgv {D : Nat → Int → Int} (fr : Int) : ∀ (n : Nat) (p a : Int), dgn D n p - fr ≤ 3 → nvl D n p a = dgv D fr n p a
  | 0, _, _, _ => rfl
  | n + 1, p, a, h => by
    show (if isD (bt D p) then nvl D n (p + 1) (a * 10 + bt D p - 48) else a) = (if isD (bt D p) then dgv D fr n (p + 1) (if p - fr < 3 then 10 * a + bt D p - 48 else 0) else a)
    have e : dgn D (n + 1) p = if isD (bt D p) then dgn D n (p + 1) else p := rfl
    rw [e] at h
    by_cases c : isD (bt D p)
    · rw [if_pos c] at h ⊢
      have g := dgn_rng D n (p + 1)
      rw [if_pos c, if_pos (by omega), show a * 10 + bt D p - 48 = 10 * a + bt D p - 48 by omega]
      exact nvl_dgv fr n (p + 1) _ h
    · rw [if_neg c, if_neg c]
/-- the class's code of a token -/
def tkc (k : Int) : Int := if k = 0 then 3 else if k = 1 then 0 else if k = 2 then 1 else if k = 3 then 2 else 4
def PCr (ES D : Nat → Int → Int) : Prop := ES 0 1 = D 0 20 ∧ ES 0 4 = tkc (D 0 23) ∧ ES 0 5 = D 0 22 ∧ ES 0 6 = D 0 21 ∧ (D 0 23 = 2 → ES 0 7 = D 0 24) ∧ ES 0 9 = D 0 25 ∧ ES 0 10 = D 0 26
section SC
variable {call : PC} {mc ms fr : Nat} {Q : Int → PH → Prop} {X : Nat → PH → Prop} {K : PK}
set_option maxRecDepth 100000 in
theorem v_X4_byteAt_0 (a0 : Nat) (i1 : Int) (h : PH) (c s : Nat) (H : InR i1 ∧ (i1 < 0 →
 Q ((-1)) h) ∧
(0 ≤ i1 →
 hk h a0 = 5 ∧ InR i1 ∧ InR (hi h a0 1) ∧ (i1 < (hi h a0 1) →
 hk h a0 = 5 ∧ hk h (hr h a0 0) = 21 ∧ (0 ≤ i1 ∧ i1 < (hl h (hr h a0 0) : Int)) ∧ Q (hi h (hr h a0 0) (Int.toNat i1)) h) ∧
((hi h a0 1) ≤ i1 →
 Q ((-1)) h))) : wpc k_X4_byteAt [] call mc ms fr Q X [] K 400 (pto 0 k_X4_byteAt) [some (pA a0), some (pI i1)] [] h c s :=
  H

set_option maxRecDepth 100000 in
theorem v_X4_isLetter_0 (i0 : Int) (h : PH) (c s : Nat) (H : InR i0 ∧ InR 97 ∧ (i0 < 97 →
 ((0 : Int) = 0 ∨ (0 : Int) = 1) ∧ Q 0 h) ∧
(97 ≤ i0 →
 InR i0 ∧ InR 122 ∧ (122 < i0 →
 ((0 : Int) = 0 ∨ (0 : Int) = 1) ∧ Q 0 h) ∧
(i0 ≤ 122 →
 ((1 : Int) = 0 ∨ (1 : Int) = 1) ∧ Q 1 h))) : wpc k_X4_isLetter [] call mc ms fr Q X [] K 400 (pto 0 k_X4_isLetter) [some (pI i0)] [] h c s :=
  H

set_option maxRecDepth 100000 in
theorem v_X4_isDigit_0 (i0 : Int) (h : PH) (c s : Nat) (H : InR i0 ∧ InR 48 ∧ (i0 < 48 →
 ((0 : Int) = 0 ∨ (0 : Int) = 1) ∧ Q 0 h) ∧
(48 ≤ i0 →
 InR i0 ∧ InR 57 ∧ (57 < i0 →
 ((0 : Int) = 0 ∨ (0 : Int) = 1) ∧ Q 0 h) ∧
(i0 ≤ 57 →
 ((1 : Int) = 0 ∨ (1 : Int) = 1) ∧ Q 1 h))) : wpc k_X4_isDigit [] call mc ms fr Q X [] K 400 (pto 0 k_X4_isDigit) [some (pI i0)] [] h c s :=
  H

set_option maxRecDepth 100000 in
theorem v_X4_fail_0 (a0 : Nat) (i1 : Int) (h : PH) (c s : Nat) (H : hk h a0 = 5 ∧ InR (hi h a0 9) ∧ ((hi h a0 9) = 0 →
 hk h a0 = 5 ∧ ∀ h1, h1 = hsi h a0 9 i1 →
 hk h1 a0 = 5 ∧ hk h1 a0 = 5 ∧ ∀ h2, h2 = hsi h1 a0 10 (hi h1 a0 5) →
 Q 0 h2) ∧
((hi h a0 9) ≠ 0 →
 Q 0 h)) : wpc k_X4_fail [] call mc ms fr Q X [] K 400 (pto 0 k_X4_fail) [some (pA a0), some (pI i1)] [] h c s :=
  H

set_option maxRecDepth 100000 in
theorem v_X4_scanWord_0 (a0 : Nat) (h : PH) (c s : Nat) (H : hk h a0 = 5 ∧ hk h a0 = 5 ∧ InR (hi h a0 6) ∧ InR (hi h a0 1) ∧ ((hi h a0 6) < (hi h a0 1) →
 hk h a0 = 5 ∧ hk h a0 = 5 ∧ call m_X4_byteAt [pA a0, pI (hi h a0 6)] h (fun x1 h1 =>
 call m_X4_isLetter [pI x1] h1 (fun x2 h2 =>
 InR x2 ∧ (x2 = 0 →
 hk h2 a0 = 5 ∧ hk h2 a0 = 5 ∧ InR ((hi h2 a0 6) - (hi h2 a0 5)) ∧ InR 7 ∧ (7 < ((hi h2 a0 6) - (hi h2 a0 5)) →
 hk h2 a0 = 5 ∧ ∀ h3, h3 = hsi h2 a0 4 4 →
 Q 0 h3) ∧
(((hi h2 a0 6) - (hi h2 a0 5)) ≤ 7 →
 hk h2 a0 = 5 ∧ ∀ h4, h4 = hsi h2 a0 4 0 →
 Q 0 h4)) ∧
(x2 ≠ 0 →
 hk h2 a0 = 5 ∧ hk h2 a0 = 5 ∧ ∀ h5, h5 = hsi h2 a0 6 ((hi h2 a0 6) + 1) →
 K 0 [some (pA a0)] [] h5 c s)) X) X) ∧
((hi h a0 1) ≤ (hi h a0 6) →
 hk h a0 = 5 ∧ hk h a0 = 5 ∧ InR ((hi h a0 6) - (hi h a0 5)) ∧ InR 7 ∧ (7 < ((hi h a0 6) - (hi h a0 5)) →
 hk h a0 = 5 ∧ ∀ h6, h6 = hsi h a0 4 4 →
 Q 0 h6) ∧
(((hi h a0 6) - (hi h a0 5)) ≤ 7 →
 hk h a0 = 5 ∧ ∀ h7, h7 = hsi h a0 4 0 →
 Q 0 h7))) : wpc k_X4_scanWord [] call mc ms fr Q X [0] K 400 (pto 0 k_X4_scanWord) [some (pA a0)] [] h c s :=
  H

set_option maxRecDepth 100000 in
theorem v_X4_scanNumber_0 (a0 : Nat) (h : PH) (c s : Nat) (H : hk h a0 = 5 ∧ ∀ h1, h1 = hsi h a0 7 0 →
 K 5 [some (pA a0)] [] h1 c s) : wpc k_X4_scanNumber [] call mc ms fr Q X [5] K 400 (pto 0 k_X4_scanNumber) [some (pA a0)] [] h c s :=
  H

set_option maxRecDepth 100000 in
theorem v_X4_scanNumber_5 (a0 : Nat) (h : PH) (c s : Nat) (H : hk h a0 = 5 ∧ hk h a0 = 5 ∧ InR (hi h a0 6) ∧ InR (hi h a0 1) ∧ ((hi h a0 6) < (hi h a0 1) →
 hk h a0 = 5 ∧ hk h a0 = 5 ∧ call m_X4_byteAt [pA a0, pI (hi h a0 6)] h (fun x1 h1 =>
 call m_X4_isDigit [pI x1] h1 (fun x2 h2 =>
 InR x2 ∧ (x2 = 0 →
 hk h2 a0 = 5 ∧ hk h2 a0 = 5 ∧ InR ((hi h2 a0 6) - (hi h2 a0 5)) ∧ InR 3 ∧ (3 < ((hi h2 a0 6) - (hi h2 a0 5)) →
 hk h2 a0 = 5 ∧ ∀ h3, h3 = hsi h2 a0 4 4 →
 Q 0 h3) ∧
(((hi h2 a0 6) - (hi h2 a0 5)) ≤ 3 →
 hk h2 a0 = 5 ∧ ∀ h4, h4 = hsi h2 a0 4 1 →
 Q 0 h4)) ∧
(x2 ≠ 0 →
 hk h2 a0 = 5 ∧ hk h2 a0 = 5 ∧ hk h2 a0 = 5 ∧ call m_X4_byteAt [pA a0, pI (hi h2 a0 6)] h2 (fun x5 h5 =>
 hk h5 a0 = 5 ∧ ∀ h6, h6 = hsi h5 a0 7 ((((hi h2 a0 7) * 10) + x5) - 48) →
 hk h6 a0 = 5 ∧ hk h6 a0 = 5 ∧ ∀ h7, h7 = hsi h6 a0 6 ((hi h6 a0 6) + 1) →
 K 5 [some (pA a0)] [] h7 c s) X)) X) X) ∧
((hi h a0 1) ≤ (hi h a0 6) →
 hk h a0 = 5 ∧ hk h a0 = 5 ∧ InR ((hi h a0 6) - (hi h a0 5)) ∧ InR 3 ∧ (3 < ((hi h a0 6) - (hi h a0 5)) →
 hk h a0 = 5 ∧ ∀ h8, h8 = hsi h a0 4 4 →
 Q 0 h8) ∧
(((hi h a0 6) - (hi h a0 5)) ≤ 3 →
 hk h a0 = 5 ∧ ∀ h9, h9 = hsi h a0 4 1 →
 Q 0 h9))) : wpc k_X4_scanNumber [] call mc ms fr Q X [5] K 400 (pto 5 k_X4_scanNumber) [some (pA a0)] [] h c s :=
  H

set_option maxRecDepth 100000 in
theorem v_X4_advance_0 (a0 : Nat) (h : PH) (c s : Nat) (H : hk h a0 = 5 ∧ InR (hi h a0 9) ∧ ((hi h a0 9) = 0 →
 hk h a0 = 5 ∧ hk h a0 = 5 ∧ ∀ h1, h1 = hsi h a0 5 (hi h a0 6) →
 K 16 [some (pA a0)] [] h1 c s) ∧
((hi h a0 9) ≠ 0 →
 Q 0 h)) : wpc k_X4_advance [] call mc ms fr Q X [16, 53] K 400 (pto 0 k_X4_advance) [some (pA a0)] [] h c s :=
  H

set_option maxRecDepth 100000 in
theorem v_X4_advance_16 (a0 : Nat) (h : PH) (c s : Nat) (H : hk h a0 = 5 ∧ hk h a0 = 5 ∧ InR (hi h a0 5) ∧ InR (hi h a0 1) ∧ ((hi h a0 5) < (hi h a0 1) →
 hk h a0 = 5 ∧ hk h a0 = 5 ∧ call m_X4_byteAt [pA a0, pI (hi h a0 5)] h (fun x1 h1 =>
 InR x1 ∧ InR 32 ∧ (x1 = 32 →
 hk h1 a0 = 5 ∧ hk h1 a0 = 5 ∧ ∀ h2, h2 = hsi h1 a0 5 ((hi h1 a0 5) + 1) →
 K 16 [some (pA a0)] [] h2 c s) ∧
(x1 ≠ 32 →
 K 53 [some (pA a0)] [] h1 c s)) X) ∧
((hi h a0 1) ≤ (hi h a0 5) →
 K 53 [some (pA a0)] [] h c s)) : wpc k_X4_advance [] call mc ms fr Q X [16, 53] K 400 (pto 16 k_X4_advance) [some (pA a0)] [] h c s :=
  H

set_option maxRecDepth 100000 in
theorem v_X4_advance_53 (a0 : Nat) (h : PH) (c s : Nat) (H : hk h a0 = 5 ∧ hk h a0 = 5 ∧ ∀ h1, h1 = hsi h a0 6 (hi h a0 5) →
 hk h1 a0 = 5 ∧ hk h1 a0 = 5 ∧ InR (hi h1 a0 5) ∧ InR (hi h1 a0 1) ∧ ((hi h1 a0 5) < (hi h1 a0 1) →
 hk h1 a0 = 5 ∧ hk h1 a0 = 5 ∧ call m_X4_byteAt [pA a0, pI (hi h1 a0 5)] h1 (fun x2 h2 =>
 call m_X4_isLetter [pI x2] h2 (fun x3 h3 =>
 InR x3 ∧ (x3 = 0 →
 hk h3 a0 = 5 ∧ hk h3 a0 = 5 ∧ call m_X4_byteAt [pA a0, pI (hi h3 a0 5)] h3 (fun x4 h4 =>
 call m_X4_isDigit [pI x4] h4 (fun x5 h5 =>
 InR x5 ∧ (x5 = 0 →
 hk h5 a0 = 5 ∧ hk h5 a0 = 5 ∧ call m_X4_byteAt [pA a0, pI (hi h5 a0 5)] h5 (fun x6 h6 =>
 InR x6 ∧ InR 59 ∧ (x6 = 59 →
 hk h6 a0 = 5 ∧ ∀ h7, h7 = hsi h6 a0 4 2 →
 hk h7 a0 = 5 ∧ hk h7 a0 = 5 ∧ ∀ h8, h8 = hsi h7 a0 6 ((hi h7 a0 5) + 1) →
 Q 0 h8) ∧
(x6 ≠ 59 →
 hk h6 a0 = 5 ∧ ∀ h9, h9 = hsi h6 a0 4 4 →
 hk h9 a0 = 5 ∧ hk h9 a0 = 5 ∧ ∀ h10, h10 = hsi h9 a0 6 ((hi h9 a0 5) + 1) →
 Q 0 h10)) X) ∧
(x5 ≠ 0 →
 hk h5 a0 = 5 ∧ call m_X4_scanNumber [pA a0] h5 (fun _ h11 =>
 Q 0 h11) X)) X) X) ∧
(x3 ≠ 0 →
 hk h3 a0 = 5 ∧ call m_X4_scanWord [pA a0] h3 (fun _ h12 =>
 Q 0 h12) X)) X) X) ∧
((hi h1 a0 1) ≤ (hi h1 a0 5) →
 hk h1 a0 = 5 ∧ ∀ h13, h13 = hsi h1 a0 4 3 →
 Q 0 h13)) : wpc k_X4_advance [] call mc ms fr Q X [16, 53] K 400 (pto 53 k_X4_advance) [some (pA a0)] [] h c s :=
  H

end SC
section TOK
variable {d p : Nat} {h0 h : PH} {ES D : Nat → Int → Int} {Q : Int → PH → Prop} {X : Nat → PH → Prop}
theorem S_X4_byteAt {i : Int} (S : Sx p h0 h ES) (r0 : hr h0 p 0 = 65) (F : BFR h0 D) (hd : 66 ≤ p) (e1 : ES 0 1 = D 0 20) (hL : 0 ≤ D 0 20 ∧ D 0 20 ≤ 700) (hvi : InR i) (H : Q (cb D i) h) : RUN GQ (d + 1) m_X4_byteAt [pA p, pI i] h Q X := by
  rw [e_X4_byteAt]
  refine WP.of (RUN.mono GQ _) (cuts := []) (n := 400) (v_X4_byteAt_0 _ _ _ _ _ ?_)
  have k5 : hk h p = 5 := S.k 0 (by decide) rfl
  have f1 : hi h p 1 = D 0 20 := (S.f1 0 (by decide)).trans e1
  have r : hr h p 0 = 65 := (S.2.1.er p 0).trans r0
  have Fh := F.sa S.2.1 hd
  rw [f1, r]
  refine ⟨hvi, fun c => ?_, fun c => ⟨k5, hvi, ir (by omega) (by omega), fun c1 => ⟨k5, Fh.1, ⟨c, by rw [Fh.2.1]; omega⟩, ?_⟩, fun c1 => ?_⟩⟩
  · have e : cb D i = -1 := if_neg (by omega)
    rw [e] at H; exact H
  · have e : cb D i = sgb (D 10 i) := if_pos ⟨c, c1⟩
    rw [Fh.2.2 i c (by omega), ← e]; exact H
  · have e : cb D i = -1 := if_neg (by omega)
    rw [e] at H; exact H
theorem S_X4_isLetter {c : Int} (hc : InR c) (H1 : isL c → Q 1 h) (H0 : ¬ isL c → Q 0 h) : RUN GQ (d + 1) m_X4_isLetter [pI c] h Q X := by
  rw [e_X4_isLetter]
  refine WP.of (RUN.mono GQ _) (cuts := []) (n := 400) (v_X4_isLetter_0 _ _ _ _ ?_)
  exact ⟨hc, ir (by omega) (by omega), fun c1 => ⟨Or.inl rfl, H0 (by unfold isL; omega)⟩, fun c1 => ⟨hc, ir (by omega) (by omega), fun c2 => ⟨Or.inl rfl, H0 (by unfold isL; omega)⟩, fun c2 => ⟨Or.inr rfl, H1 ⟨c1, c2⟩⟩⟩⟩
theorem S_X4_isDigit {c : Int} (hc : InR c) (H1 : isD c → Q 1 h) (H0 : ¬ isD c → Q 0 h) : RUN GQ (d + 1) m_X4_isDigit [pI c] h Q X := by
  rw [e_X4_isDigit]
  refine WP.of (RUN.mono GQ _) (cuts := []) (n := 400) (v_X4_isDigit_0 _ _ _ _ ?_)
  exact ⟨hc, ir (by omega) (by omega), fun c1 => ⟨Or.inl rfl, H0 (by unfold isD; omega)⟩, fun c1 => ⟨hc, ir (by omega) (by omega), fun c2 => ⟨Or.inl rfl, H0 (by unfold isD; omega)⟩, fun c2 => ⟨Or.inr rfl, H1 ⟨c1, c2⟩⟩⟩⟩
theorem S_X4_fail {w : Int} (S : Sx p h0 h ES) (P : PCr ES D) (hE : 0 ≤ D 0 25 ∧ D 0 25 ≤ 4) (H : ∀ h' ES', Sx p h0 h' ES' → PCr ES' (flD D w) → ES' 0 8 = ES 0 8 → Q 0 h') : RUN GQ (d + 1) m_X4_fail [pA p, pI w] h Q X := by
  rw [e_X4_fail]
  refine WP.of (RUN.mono GQ _) (cuts := []) (n := 400) (v_X4_fail_0 _ _ _ _ _ ?_)
  obtain ⟨p1, p4, p5, p6, p7, p9, p10⟩ := P
  have k5 : hk h p = 5 := S.k 0 (by decide) rfl
  have f9 : hi h p 9 = D 0 25 := (S.f9 0 (by decide)).trans p9
  rw [f9]
  refine ⟨k5, ir (by omega) (by omega), fun c => Bx.pf9 S 0 5 (by decide) rfl (fun h1 S1 => ?_), fun c => ?_⟩
  · have k1 : hk h1 p = 5 := S1.k 0 (by decide) rfl
    have f5 : hi h1 p 5 = D 0 22 := ((S1.f5 0 (by decide)).trans (dst_ne (by decide))).trans p5
    rw [f5]
    refine ⟨k1, Bx.pf10 S1 0 5 (by decide) rfl (fun h2 S2 => ?_)⟩
    have e : flD D w = dst (dst D 0 25 w) 0 26 (D 0 22) := if_pos c
    refine H h2 _ S2 ?_ rfl
    rw [e]
    exact ⟨p1, p4, p5, p6, p7, rfl, rfl⟩
  · have e : flD D w = D := if_neg c
    exact H h ES S (by rw [e]; exact ⟨p1, p4, p5, p6, p7, p9, p10⟩) rfl
/-- what a scan leaves: behind, token, and the rest -/
theorem L_X4_scanWord (r0 : hr h0 p 0 = 65) (F : BFR h0 D) (hd : 66 ≤ p) (B : BY D) (hL : 0 ≤ D 0 20 ∧ D 0 20 ≤ 700) (st : Int) (hst : 0 ≤ st ∧ st ≤ 700) : ∀ (n : Nat) (q : Int) (ES : Nat → Int → Int) (h : PH), Sx p h0 h ES → ES 0 1 = D 0 20 → ES 0 5 = st → ES 0 6 = q → 0 ≤ q → q + n = D 0 20 →
    (∀ h' ES', Sx p h0 h' ES' → (ES' 0 6 = ltl D n q ∧ ES' 0 4 = (if 7 < ltl D n q - st then 4 else 0) ∧ ∀ k, k ≠ 4 → k ≠ 6 → ES' 0 k = ES 0 k) → Q 0 h') → WP k_X4_scanWord [] (RUN GQ (d + 1)) 0 0 (d + 2) Q X 0 [some (pA p)] [] h 0 0 := by
  intro n
  induction n with
  | zero =>
    intro q ES h S e1 e5 e6 q0 qn H
    refine WP.of (RUN.mono GQ _) (cuts := [0]) (n := 400) (v_X4_scanWord_0 _ _ _ _ ?_)
    have k5 : hk h p = 5 := S.k 0 (by decide) rfl
    have f1 : hi h p 1 = D 0 20 := (S.f1 0 (by decide)).trans e1
    have f5 : hi h p 5 = st := (S.f5 0 (by decide)).trans e5
    have f6 : hi h p 6 = q := (S.f6 0 (by decide)).trans e6
    have H' : (∀ h' ES', Sx p h0 h' ES' → (ES' 0 6 = q ∧ ES' 0 4 = (if 7 < q - st then 4 else 0) ∧ ∀ k, k ≠ 4 → k ≠ 6 → ES' 0 k = ES 0 k) → Q 0 h') := H
    rw [f6, f1, f5]
    refine ⟨k5, k5, ir (by omega) (by omega), ir (by omega) (by omega), fun c => absurd c (by omega), fun _ => ⟨k5, k5, ir (by omega) (by omega), ir (by omega) (by omega), fun c => Bx.pf4 S 0 5 (by decide) rfl (fun h6 S6 => ?_), fun c => Bx.pf4 S 0 5 (by decide) rfl (fun h6 S6 => ?_)⟩⟩
    · exact H' h6 _ S6 ⟨e6, by rw [if_pos c]; rfl, fun k a _ => dst_ne (by omega)⟩
    · exact H' h6 _ S6 ⟨e6, by rw [if_neg (by omega)]; rfl, fun k a _ => dst_ne (by omega)⟩
  | succ n ih =>
    intro q ES h S e1 e5 e6 q0 qn H
    refine WP.of (RUN.mono GQ _) (cuts := [0]) (n := 400) (v_X4_scanWord_0 _ _ _ _ ?_)
    have k5 : hk h p = 5 := S.k 0 (by decide) rfl
    have f1 : hi h p 1 = D 0 20 := (S.f1 0 (by decide)).trans e1
    have f5 : hi h p 5 = st := (S.f5 0 (by decide)).trans e5
    have f6 : hi h p 6 = q := (S.f6 0 (by decide)).trans e6
    have e : ltl D (n + 1) q = if isL (bt D q) then ltl D n (q + 1) else q := rfl
    rw [e] at H
    have cq := cb_bt B hL.2 q0
    rw [f6, f1, f5]
    refine ⟨k5, k5, ir (by omega) (by omega), ir (by omega) (by omega), fun _ => ⟨k5, k5, ?_⟩, fun c => absurd c (by omega)⟩
    refine S_X4_byteAt S r0 F hd e1 hL (ir (by omega) (by omega)) ?_
    refine S_X4_isLetter (ir (by omega) (by omega)) (fun c => ?_) (fun c => ?_)
    · rw [if_pos (by unfold isL at c ⊢; omega)] at H
      rw [f6, f5]
      refine ⟨ir (by omega) (by omega), fun z => absurd z (by omega), fun _ => ⟨k5, Bx.pf6 S 0 5 (by decide) rfl (fun h6 S6 => ?_)⟩⟩
      exact ih (q + 1) _ h6 S6 e1 e5 rfl (by omega) (by omega) (fun h' ES' S' z => H h' ES' S' ⟨z.1, z.2.1, fun k a b => (z.2.2 k a b).trans (dst_ne b)⟩)
    · rw [if_neg (by unfold isL at c ⊢; omega)] at H
      rw [f6, f5]
      refine ⟨ir (by omega) (by omega), fun _ => ⟨k5, k5, ir (by omega) (by omega), ir (by omega) (by omega), fun c => Bx.pf4 S 0 5 (by decide) rfl (fun h6 S6 => ?_), fun c => Bx.pf4 S 0 5 (by decide) rfl (fun h6 S6 => ?_)⟩, fun z => absurd rfl z⟩
      · exact H h6 _ S6 ⟨e6, by rw [if_pos c]; rfl, fun k a _ => dst_ne (by omega)⟩
      · exact H h6 _ S6 ⟨e6, by rw [if_neg (by omega)]; rfl, fun k a _ => dst_ne (by omega)⟩
theorem L_X4_scanNumber (r0 : hr h0 p 0 = 65) (F : BFR h0 D) (hd : 66 ≤ p) (B : BY D) (hL : 0 ≤ D 0 20 ∧ D 0 20 ≤ 700) (st : Int) (hst : 0 ≤ st ∧ st ≤ 700) : ∀ (n : Nat) (q v : Int) (ES : Nat → Int → Int) (h : PH), Sx p h0 h ES → ES 0 1 = D 0 20 → ES 0 5 = st → ES 0 6 = q → ES 0 7 = v → 0 ≤ q → q + n = D 0 20 →
    (∀ h' ES', Sx p h0 h' ES' → (ES' 0 6 = dgn D n q ∧ ES' 0 4 = (if 3 < dgn D n q - st then 4 else 1) ∧ ES' 0 7 = nvl D n q v ∧ ∀ k, k ≠ 4 → k ≠ 6 → k ≠ 7 → ES' 0 k = ES 0 k) → Q 0 h') → WP k_X4_scanNumber [] (RUN GQ (d + 1)) 0 0 (d + 2) Q X 5 [some (pA p)] [] h 0 0 := by
  intro n
  induction n with
  | zero =>
    intro q v ES h S e1 e5 e6 e7 q0 qn H
    refine WP.of (RUN.mono GQ _) (cuts := [5]) (n := 400) (v_X4_scanNumber_5 _ _ _ _ ?_)
    have k5 : hk h p = 5 := S.k 0 (by decide) rfl
    have f1 : hi h p 1 = D 0 20 := (S.f1 0 (by decide)).trans e1
    have f5 : hi h p 5 = st := (S.f5 0 (by decide)).trans e5
    have f6 : hi h p 6 = q := (S.f6 0 (by decide)).trans e6
    have H' : (∀ h' ES', Sx p h0 h' ES' → (ES' 0 6 = q ∧ ES' 0 4 = (if 3 < q - st then 4 else 1) ∧ ES' 0 7 = v ∧ ∀ k, k ≠ 4 → k ≠ 6 → k ≠ 7 → ES' 0 k = ES 0 k) → Q 0 h') := H
    rw [f6, f1, f5]
    refine ⟨k5, k5, ir (by omega) (by omega), ir (by omega) (by omega), fun c => absurd c (by omega), fun _ => ⟨k5, k5, ir (by omega) (by omega), ir (by omega) (by omega), fun c => Bx.pf4 S 0 5 (by decide) rfl (fun h6 S6 => ?_), fun c => Bx.pf4 S 0 5 (by decide) rfl (fun h6 S6 => ?_)⟩⟩
    · exact H' h6 _ S6 ⟨e6, by rw [if_pos c]; rfl, e7, fun k a _ _ => dst_ne (by omega)⟩
    · exact H' h6 _ S6 ⟨e6, by rw [if_neg (by omega)]; rfl, e7, fun k a _ _ => dst_ne (by omega)⟩
  | succ n ih =>
    intro q v ES h S e1 e5 e6 e7 q0 qn H
    refine WP.of (RUN.mono GQ _) (cuts := [5]) (n := 400) (v_X4_scanNumber_5 _ _ _ _ ?_)
    have k5 : hk h p = 5 := S.k 0 (by decide) rfl
    have f1 : hi h p 1 = D 0 20 := (S.f1 0 (by decide)).trans e1
    have f5 : hi h p 5 = st := (S.f5 0 (by decide)).trans e5
    have f6 : hi h p 6 = q := (S.f6 0 (by decide)).trans e6
    have f7 : hi h p 7 = v := (S.f7 0 (by decide)).trans e7
    have e : dgn D (n + 1) q = if isD (bt D q) then dgn D n (q + 1) else q := rfl
    have e' : nvl D (n + 1) q v = if isD (bt D q) then nvl D n (q + 1) (v * 10 + bt D q - 48) else v := rfl
    rw [e, e'] at H
    have cq := cb_bt B hL.2 q0
    rw [f6, f1, f5]
    refine ⟨k5, k5, ir (by omega) (by omega), ir (by omega) (by omega), fun _ => ⟨k5, k5, ?_⟩, fun c => absurd c (by omega)⟩
    refine S_X4_byteAt S r0 F hd e1 hL (ir (by omega) (by omega)) ?_
    refine S_X4_isDigit (ir (by omega) (by omega)) (fun c => ?_) (fun c => ?_)
    · have cc : isD (bt D q) := by unfold isD at c ⊢; omega
      rw [if_pos cc, if_pos cc] at H
      rw [f6, f5, f7]
      refine ⟨ir (by omega) (by omega), fun z => absurd z (by omega), fun _ => ⟨k5, k5, k5, ?_⟩⟩
      refine S_X4_byteAt S r0 F hd e1 hL (ir (by omega) (by omega)) ?_
      have ec : cb D q = bt D q := by unfold isD at c; omega
      rw [ec]
      refine Bx.pf7 S 0 5 (by decide) rfl (fun h6 S6 => ?_)
      have k6 : hk h6 p = 5 := S6.k 0 (by decide) rfl
      have f66 : hi h6 p 6 = q := (S6.f6 0 (by decide)).trans ((dst_ne (by decide)).trans e6)
      rw [f66]
      refine ⟨k6, Bx.pf6 S6 0 5 (by decide) rfl (fun h7 S7 => ?_)⟩
      exact ih (q + 1) _ _ h7 S7 e1 e5 rfl rfl (by omega) (by omega) (fun h' ES' S' z => H h' ES' S' ⟨z.1, z.2.1, z.2.2.1, fun k a b c => (z.2.2.2 k a b c).trans ((dst_ne b).trans (dst_ne c))⟩)
    · have cc : ¬ isD (bt D q) := by unfold isD at c ⊢; omega
      rw [if_neg cc, if_neg cc] at H
      rw [f6, f5]
      refine ⟨ir (by omega) (by omega), fun _ => ⟨k5, k5, ir (by omega) (by omega), ir (by omega) (by omega), fun c => Bx.pf4 S 0 5 (by decide) rfl (fun h6 S6 => ?_), fun c => Bx.pf4 S 0 5 (by decide) rfl (fun h6 S6 => ?_)⟩, fun z => absurd rfl z⟩
      · exact H h6 _ S6 ⟨e6, by rw [if_pos c]; rfl, e7, fun k a _ _ => dst_ne (by omega)⟩
      · exact H h6 _ S6 ⟨e6, by rw [if_neg (by omega)]; rfl, e7, fun k a _ _ => dst_ne (by omega)⟩
theorem S_X4_scanWord {st q : Int} (r0 : hr h0 p 0 = 65) (F : BFR h0 D) (hd : 66 ≤ p) (B : BY D) (hL : 0 ≤ D 0 20 ∧ D 0 20 ≤ 700) (hst : 0 ≤ st ∧ st ≤ 700) (S : Sx p h0 h ES) (e1 : ES 0 1 = D 0 20) (e5 : ES 0 5 = st) (e6 : ES 0 6 = q) (hq : 0 ≤ q ∧ q ≤ D 0 20)
    (H : ∀ h' ES', Sx p h0 h' ES' → (ES' 0 6 = ltl D (D 0 20 - q).toNat q ∧ ES' 0 4 = (if 7 < ltl D (D 0 20 - q).toNat q - st then 4 else 0) ∧ ∀ k, k ≠ 4 → k ≠ 6 → ES' 0 k = ES 0 k) → Q 0 h') : RUN GQ (d + 2) m_X4_scanWord [pA p] h Q X := by
  rw [e_X4_scanWord]
  exact L_X4_scanWord r0 F hd B hL st hst _ q ES h S e1 e5 e6 hq.1 (by omega) H
theorem S_X4_scanNumber {st q : Int} (r0 : hr h0 p 0 = 65) (F : BFR h0 D) (hd : 66 ≤ p) (B : BY D) (hL : 0 ≤ D 0 20 ∧ D 0 20 ≤ 700) (hst : 0 ≤ st ∧ st ≤ 700) (S : Sx p h0 h ES) (e1 : ES 0 1 = D 0 20) (e5 : ES 0 5 = st) (e6 : ES 0 6 = q) (hq : 0 ≤ q ∧ q ≤ D 0 20)
    (H : ∀ h' ES', Sx p h0 h' ES' → (ES' 0 6 = dgn D (D 0 20 - q).toNat q ∧ ES' 0 4 = (if 3 < dgn D (D 0 20 - q).toNat q - st then 4 else 1) ∧ ES' 0 7 = nvl D (D 0 20 - q).toNat q 0 ∧ ∀ k, k ≠ 4 → k ≠ 6 → k ≠ 7 → ES' 0 k = ES 0 k) → Q 0 h') : RUN GQ (d + 2) m_X4_scanNumber [pA p] h Q X := by
  rw [e_X4_scanNumber]
  refine WP.of (RUN.mono GQ _) (cuts := [5]) (n := 400) (v_X4_scanNumber_0 _ _ _ _ ?_)
  refine Bx.pf7 S 0 5 (by decide) rfl (fun h7 S7 => ?_)
  exact L_X4_scanNumber r0 F hd B hL st hst _ q 0 _ h7 S7 e1 e5 e6 rfl hq.1 (by omega) (fun h' ES' S' z => H h' ES' S' ⟨z.1, z.2.1, z.2.2.1, fun k a b c => (z.2.2.2 k a b c).trans (dst_ne c)⟩)
end TOK
