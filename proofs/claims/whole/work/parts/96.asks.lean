/-! the model asked: looks (written by wip/whole/tools/eng.py) -/
section VCS
variable {call : PC} {mc ms fr : Nat} {Q : Int → PH → Prop} {X : Nat → PH → Prop} {K : PK}
set_option maxRecDepth 100000 in
theorem v_X7_busiest_0 (a0 : Nat) (z1 : Option PV) (z2 : Option PV) (h : PH) (c s : Nat) (H : hk h a0 = 8 ∧ call m_X7_notLoaded [pA a0] h (fun x1 h1 =>
 InR x1 ∧ (x1 = 0 →
 K 13 [some (pA a0), some (pI ((-1))), some (pI 0)] [] h1 c s) ∧
(x1 ≠ 0 →
 Q 0 h1)) X) : wpc k_X7_busiest [] call mc ms fr Q X [13] K 400 (pto 0 k_X7_busiest) [some (pA a0), z1, z2] [] h c s :=
  H
set_option maxRecDepth 100000 in
theorem v_X7_busiest_13 (a0 : Nat) (i1 : Int) (i2 : Int) (h : PH) (c s : Nat) (H : hk h a0 = 8 ∧ InR i2 ∧ InR (hi h a0 4) ∧ (i2 < (hi h a0 4) →
 InR i1 ∧ InR ((-1)) ∧ (i1 = ((-1)) →
 K 13 [some (pA a0), some (pI i2), some (pI (i2 + 1))] [] h c s) ∧
(i1 ≠ ((-1)) →
 hk h a0 = 8 ∧ (hk h (hr h a0 11) = 20 ∨ hk h (hr h a0 11) = 26) ∧ (0 ≤ (115 + i2) ∧ (115 + i2) < (hl h (hr h a0 11) : Int)) ∧ hk h a0 = 8 ∧ (hk h (hr h a0 11) = 20 ∨ hk h (hr h a0 11) = 26) ∧ (0 ≤ (115 + i1) ∧ (115 + i1) < (hl h (hr h a0 11) : Int)) ∧ InR (hi h (hr h a0 11) (Int.toNat ((115 + i2)))) ∧ InR (hi h (hr h a0 11) (Int.toNat ((115 + i1)))) ∧ ((hi h (hr h a0 11) (Int.toNat ((115 + i1)))) < (hi h (hr h a0 11) (Int.toNat ((115 + i2)))) →
 K 13 [some (pA a0), some (pI i2), some (pI (i2 + 1))] [] h c s) ∧
((hi h (hr h a0 11) (Int.toNat ((115 + i2)))) ≤ (hi h (hr h a0 11) (Int.toNat ((115 + i1)))) →
 K 13 [some (pA a0), some (pI i1), some (pI (i2 + 1))] [] h c s))) ∧
((hi h a0 4) ≤ i2 →
 Q i1 h)) : wpc k_X7_busiest [] call mc ms fr Q X [13] K 400 (pto 13 k_X7_busiest) [some (pA a0), some (pI i1), some (pI i2)] [] h c s :=
  H
set_option maxRecDepth 100000 in
theorem v_X7_tiredest_0 (a0 : Nat) (i1 : Int) (z2 : Option PV) (z3 : Option PV) (h : PH) (c s : Nat) (H : hk h a0 = 8 ∧ call m_X7_noProgram [pA a0, pI i1] h (fun x1 h1 =>
 InR x1 ∧ (x1 = 0 →
 K 14 [some (pA a0), some (pI i1), some (pI ((-1))), some (pI 0)] [] h1 c s) ∧
(x1 ≠ 0 →
 Q 0 h1)) X) : wpc k_X7_tiredest [] call mc ms fr Q X [14] K 400 (pto 0 k_X7_tiredest) [some (pA a0), some (pI i1), z2, z3] [] h c s :=
  H
set_option maxRecDepth 100000 in
theorem v_X7_tiredest_14 (a0 : Nat) (i1 : Int) (i2 : Int) (i3 : Int) (h : PH) (c s : Nat) (H : hk h a0 = 8 ∧ InR i3 ∧ InR (hi h a0 3) ∧ (i3 < (hi h a0 3) →
 InR i2 ∧ InR ((-1)) ∧ (i2 = ((-1)) →
 K 14 [some (pA a0), some (pI i1), some (pI i3), some (pI (i3 + 1))] [] h c s) ∧
(i2 ≠ ((-1)) →
 hk h a0 = 8 ∧ call m_X7_tiredOf [pA a0, pI i1, pI i3] h (fun x1 h1 =>
 hk h1 a0 = 8 ∧ call m_X7_tiredOf [pA a0, pI i1, pI i2] h1 (fun x2 h2 =>
 InR x1 ∧ InR x2 ∧ (x2 < x1 →
 K 14 [some (pA a0), some (pI i1), some (pI i3), some (pI (i3 + 1))] [] h2 c s) ∧
(x1 ≤ x2 →
 K 14 [some (pA a0), some (pI i1), some (pI i2), some (pI (i3 + 1))] [] h2 c s)) X) X)) ∧
((hi h a0 3) ≤ i3 →
 Q i2 h)) : wpc k_X7_tiredest [] call mc ms fr Q X [14] K 400 (pto 14 k_X7_tiredest) [some (pA a0), some (pI i1), some (pI i2), some (pI i3)] [] h c s :=
  H
set_option maxRecDepth 100000 in
theorem v_X7_oldest_0 (a0 : Nat) (z1 : Option PV) (z2 : Option PV) (z3 : Option PV) (h : PH) (c s : Nat) (H : hk h a0 = 8 ∧ call m_X7_notLoaded [pA a0] h (fun x1 h1 =>
 InR x1 ∧ (x1 = 0 →
 K 13 [some (pA a0), some (pI ((-1))), some (pI 0), z3] [] h1 c s) ∧
(x1 ≠ 0 →
 Q 0 h1)) X) : wpc k_X7_oldest [] call mc ms fr Q X [13] K 400 (pto 0 k_X7_oldest) [some (pA a0), z1, z2, z3] [] h c s :=
  H
set_option maxRecDepth 100000 in
theorem v_X7_oldest_13 (a0 : Nat) (i1 : Int) (i2 : Int) (z3 : Option PV) (h : PH) (c s : Nat) (H : hk h a0 = 8 ∧ InR i2 ∧ InR (hi h a0 4) ∧ (i2 < (hi h a0 4) →
 hk h a0 = 8 ∧ (hk h (hr h a0 11) = 20 ∨ hk h (hr h a0 11) = 26) ∧ (0 ≤ (115 + i2) ∧ (115 + i2) < (hl h (hr h a0 11) : Int)) ∧ InR (hi h (hr h a0 11) (Int.toNat ((115 + i2)))) ∧ (0 < (hi h (hr h a0 11) (Int.toNat ((115 + i2)))) →
 InR i1 ∧ InR ((-1)) ∧ (i1 = ((-1)) →
 InR 1 ∧ ((1 : Int) = 0 →
 K 13 [some (pA a0), some (pI i1), some (pI (i2 + 1)), some (pI 1)] [] h c s) ∧
((1 : Int) ≠ 0 →
 hk h a0 = 8 ∧ call m_X7_inQueue [pA a0, pI i2, pI 0, pI 0] h (fun x1 h1 =>
 K 13 [some (pA a0), some (pI x1), some (pI (i2 + 1)), some (pI 1)] [] h1 c s) X)) ∧
(i1 ≠ ((-1)) →
 hk h a0 = 8 ∧ call m_X7_inQueue [pA a0, pI i2, pI 0, pI 0] h (fun x2 h2 =>
 InR x2 ∧ InR i1 ∧ (x2 < i1 →
 InR 1 ∧ ((1 : Int) = 0 →
 K 13 [some (pA a0), some (pI i1), some (pI (i2 + 1)), some (pI 1)] [] h2 c s) ∧
((1 : Int) ≠ 0 →
 hk h2 a0 = 8 ∧ call m_X7_inQueue [pA a0, pI i2, pI 0, pI 0] h2 (fun x3 h3 =>
 K 13 [some (pA a0), some (pI x3), some (pI (i2 + 1)), some (pI 1)] [] h3 c s) X)) ∧
(i1 ≤ x2 →
 InR 0 ∧ ((0 : Int) = 0 →
 K 13 [some (pA a0), some (pI i1), some (pI (i2 + 1)), some (pI 0)] [] h2 c s) ∧
((0 : Int) ≠ 0 →
 hk h2 a0 = 8 ∧ call m_X7_inQueue [pA a0, pI i2, pI 0, pI 0] h2 (fun x4 h4 =>
 K 13 [some (pA a0), some (pI x4), some (pI (i2 + 1)), some (pI 0)] [] h4 c s) X))) X)) ∧
((hi h (hr h a0 11) (Int.toNat ((115 + i2)))) ≤ 0 →
 InR 0 ∧ ((0 : Int) = 0 →
 K 13 [some (pA a0), some (pI i1), some (pI (i2 + 1)), some (pI 0)] [] h c s) ∧
((0 : Int) ≠ 0 →
 hk h a0 = 8 ∧ call m_X7_inQueue [pA a0, pI i2, pI 0, pI 0] h (fun x5 h5 =>
 K 13 [some (pA a0), some (pI x5), some (pI (i2 + 1)), some (pI 0)] [] h5 c s) X))) ∧
((hi h a0 4) ≤ i2 →
 Q i1 h)) : wpc k_X7_oldest [] call mc ms fr Q X [13] K 400 (pto 13 k_X7_oldest) [some (pA a0), some (pI i1), some (pI i2), z3] [] h c s :=
  H
set_option maxRecDepth 100000 in
theorem v_X7_loser_0 (a0 : Nat) (i1 : Int) (i2 : Int) (z3 : Option PV) (z4 : Option PV) (h : PH) (c s : Nat) (H : hk h a0 = 8 ∧ call m_X7_noPair [pA a0, pI i1, pI i2] h (fun x1 h1 =>
 InR x1 ∧ (x1 = 0 →
 hk h1 a0 = 8 ∧ (hk h1 (hr h1 a0 11) = 20 ∨ hk h1 (hr h1 a0 11) = 26) ∧ (0 ≤ (115 + i1) ∧ (115 + i1) < (hl h1 (hr h1 a0 11) : Int)) ∧ hk h1 a0 = 8 ∧ InR (hi h1 (hr h1 a0 11) (Int.toNat ((115 + i1)))) ∧ InR (hi h1 a0 2) ∧ ((hi h1 (hr h1 a0 11) (Int.toNat ((115 + i1)))) < (hi h1 a0 2) →
 Q ((-1)) h1) ∧
((hi h1 a0 2) ≤ (hi h1 (hr h1 a0 11) (Int.toNat ((115 + i1)))) →
 hk h1 a0 = 8 ∧ (hk h1 (hr h1 a0 11) = 20 ∨ hk h1 (hr h1 a0 11) = 26) ∧ (0 ≤ (115 + i1) ∧ (115 + i1) < (hl h1 (hr h1 a0 11) : Int)) ∧ hk h1 a0 = 8 ∧ call m_X7_placeOf [pA a0, pI i1, pI ((hi h1 (hr h1 a0 11) (Int.toNat ((115 + i1)))) - 1)] h1 (fun x2 h2 =>
 hk h2 a0 = 8 ∧ call m_X7_urgencyOf [pA a0, pI i1, pI i2] h2 (fun x3 h3 =>
 hk h3 a0 = 8 ∧ call m_X7_inQueue [pA a0, pI i1, pI x2, pI 1] h3 (fun x4 h4 =>
 hk h4 a0 = 8 ∧ call m_X7_urgencyOf [pA a0, pI i1, pI x4] h4 (fun x5 h5 =>
 InR x3 ∧ InR x5 ∧ (x5 < x3 →
 InR 0 ∧ ((0 : Int) = 0 →
 hk h5 a0 = 8 ∧ call m_X7_inQueue [pA a0, pI i1, pI x2, pI 0] h5 (fun x6 h6 =>
 Q x6 h6) X) ∧
((0 : Int) ≠ 0 →
 hk h5 a0 = 8 ∧ (hk h5 (hr h5 a0 11) = 20 ∨ hk h5 (hr h5 a0 11) = 26) ∧ (0 ≤ (1 : Int) ∧ (1 : Int) < (hl h5 (hr h5 a0 11) : Int)) ∧ Q (hi h5 (hr h5 a0 11) (Int.toNat (1 : Int))) h5)) ∧
(x3 ≤ x5 →
 InR 1 ∧ ((1 : Int) = 0 →
 hk h5 a0 = 8 ∧ call m_X7_inQueue [pA a0, pI i1, pI x2, pI 0] h5 (fun x7 h7 =>
 Q x7 h7) X) ∧
((1 : Int) ≠ 0 →
 hk h5 a0 = 8 ∧ (hk h5 (hr h5 a0 11) = 20 ∨ hk h5 (hr h5 a0 11) = 26) ∧ (0 ≤ (1 : Int) ∧ (1 : Int) < (hl h5 (hr h5 a0 11) : Int)) ∧ Q (hi h5 (hr h5 a0 11) (Int.toNat (1 : Int))) h5))) X) X) X) X)) ∧
(x1 ≠ 0 →
 Q 0 h1)) X) : wpc k_X7_loser [] call mc ms fr Q X [] K 400 (pto 0 k_X7_loser) [some (pA a0), some (pI i1), some (pI i2), z3, z4] [] h c s :=
  H
set_option maxRecDepth 100000 in
theorem v_X7_raises_0 (a0 : Nat) (i1 : Int) (i2 : Int) (z3 : Option PV) (z4 : Option PV) (z5 : Option PV) (z6 : Option PV) (h : PH) (c s : Nat) (H : K 2 [some (pA a0), some (pI i1), some (pI i2), some (pI 0), z4, z5, z6] [] h c s) : wpc k_X7_raises [] call mc ms fr Q X [2, 21] K 400 (pto 0 k_X7_raises) [some (pA a0), some (pI i1), some (pI i2), z3, z4, z5, z6] [] h c s :=
  H
set_option maxRecDepth 100000 in
theorem v_X7_raises_2 (a0 : Nat) (i1 : Int) (i2 : Int) (i3 : Int) (z4 : Option PV) (z5 : Option PV) (z6 : Option PV) (h : PH) (c s : Nat) (H : hk h a0 = 8 ∧ InR i3 ∧ InR (hi h a0 3) ∧ (i3 < (hi h a0 3) →
 K 21 [some (pA a0), some (pI i1), some (pI i2), some (pI i3), some (pI ((8 * i1) + i3)), some (pI 0), z6] [] h c s) ∧
((hi h a0 3) ≤ i3 →
 ((0 : Int) = 0 ∨ (0 : Int) = 1) ∧ Q 0 h)) : wpc k_X7_raises [] call mc ms fr Q X [2, 21] K 400 (pto 2 k_X7_raises) [some (pA a0), some (pI i1), some (pI i2), some (pI i3), z4, z5, z6] [] h c s :=
  H
set_option maxRecDepth 100000 in
theorem v_X7_raises_21 (a0 : Nat) (i1 : Int) (i2 : Int) (i3 : Int) (i4 : Int) (i5 : Int) (z6 : Option PV) (h : PH) (c s : Nat) (H : hk h a0 = 8 ∧ (hk h (hr h a0 9) = 20 ∨ hk h (hr h a0 9) = 26) ∧ (0 ≤ i4 ∧ i4 < (hl h (hr h a0 9) : Int)) ∧ InR i5 ∧ InR (hi h (hr h a0 9) (Int.toNat i4)) ∧ (i5 < (hi h (hr h a0 9) (Int.toNat i4)) →
 hk h a0 = 8 ∧ (hk h (hr h a0 10) = 20 ∨ hk h (hr h a0 10) = 26) ∧ (0 ≤ (4 * ((4 * i4) + i5)) ∧ (4 * ((4 * i4) + i5)) < (hl h (hr h a0 10) : Int)) ∧ InR (hi h (hr h a0 10) (Int.toNat ((4 * ((4 * i4) + i5))))) ∧ ((hi h (hr h a0 10) (Int.toNat ((4 * ((4 * i4) + i5))))) = 0 →
 hk h a0 = 8 ∧ (hk h (hr h a0 10) = 20 ∨ hk h (hr h a0 10) = 26) ∧ (0 ≤ ((4 * ((4 * i4) + i5)) + 1) ∧ ((4 * ((4 * i4) + i5)) + 1) < (hl h (hr h a0 10) : Int)) ∧ InR (hi h (hr h a0 10) (Int.toNat (((4 * ((4 * i4) + i5)) + 1)))) ∧ InR i2 ∧ ((hi h (hr h a0 10) (Int.toNat (((4 * ((4 * i4) + i5)) + 1)))) = i2 →
 ((1 : Int) = 0 ∨ (1 : Int) = 1) ∧ Q 1 h) ∧
((hi h (hr h a0 10) (Int.toNat (((4 * ((4 * i4) + i5)) + 1)))) ≠ i2 →
 K 21 [some (pA a0), some (pI i1), some (pI i2), some (pI i3), some (pI i4), some (pI (i5 + 1)), some (pI (4 * ((4 * i4) + i5)))] [] h c s)) ∧
((hi h (hr h a0 10) (Int.toNat ((4 * ((4 * i4) + i5))))) ≠ 0 →
 K 21 [some (pA a0), some (pI i1), some (pI i2), some (pI i3), some (pI i4), some (pI (i5 + 1)), some (pI (4 * ((4 * i4) + i5)))] [] h c s)) ∧
((hi h (hr h a0 9) (Int.toNat i4)) ≤ i5 →
 K 2 [some (pA a0), some (pI i1), some (pI i2), some (pI (i3 + 1)), some (pI i4), some (pI i5), z6] [] h c s)) : wpc k_X7_raises [] call mc ms fr Q X [2, 21] K 400 (pto 21 k_X7_raises) [some (pA a0), some (pI i1), some (pI i2), some (pI i3), some (pI i4), some (pI i5), z6] [] h c s :=
  H
set_option maxRecDepth 100000 in
theorem v_X7_raisers_0 (a0 : Nat) (i1 : Int) (z2 : Option PV) (z3 : Option PV) (h : PH) (c s : Nat) (H : hk h a0 = 8 ∧ call m_X7_noKind [pA a0, pI i1] h (fun x1 h1 =>
 InR x1 ∧ (x1 = 0 →
 K 14 [some (pA a0), some (pI i1), some (pI 0), some (pI 0)] [] h1 c s) ∧
(x1 ≠ 0 →
 Q 0 h1)) X) : wpc k_X7_raisers [] call mc ms fr Q X [14] K 400 (pto 0 k_X7_raisers) [some (pA a0), some (pI i1), z2, z3] [] h c s :=
  H
set_option maxRecDepth 100000 in
theorem v_X7_raisers_14 (a0 : Nat) (i1 : Int) (i2 : Int) (i3 : Int) (h : PH) (c s : Nat) (H : hk h a0 = 8 ∧ InR i3 ∧ InR (hi h a0 4) ∧ (i3 < (hi h a0 4) →
 hk h a0 = 8 ∧ call m_X7_raises [pA a0, pI i3, pI i1] h (fun x1 h1 =>
 call m_X7_flag [pI x1] h1 (fun x2 h2 =>
 K 14 [some (pA a0), some (pI i1), some (pI (bor i2 (bshl x2 i3))), some (pI (i3 + 1))] [] h2 c s) X) X) ∧
((hi h a0 4) ≤ i3 →
 Q i2 h)) : wpc k_X7_raisers [] call mc ms fr Q X [14] K 400 (pto 14 k_X7_raisers) [some (pA a0), some (pI i1), some (pI i2), some (pI i3)] [] h c s :=
  H
end VCS
theorem L_X7_busiest_13 {d b : Nat} {h0 h : PH} {D : Nat → Int → Int} {s : Int → Int} {t : Int} {Q : Int → PH → Prop} {X : Nat → PH → Prop} {N : Int} (M : Mt b h0 h D s t) (I : HI (D 0 3) (D 0 4) (D 0 2) N s) (hN : N ≤ 1990000000) (V : PIv D) : ∀ (n : Nat) (bs p : Int), (0 ≤ p) → (p + n = D 0 4) → (bs = -1 ∨ 0 ≤ bs ∧ bs < p) → (∀ x : Int, x = bsl s n p bs → Q x h) → WP k_X7_busiest [] (RUN GQ (d + 2)) 0 0 (d + 3) Q X 13 [some (pA b), some (pI bs), some (pI p)] [] h 0 0 := by
  intro n
  induction n with
  | zero =>
    intro bs p hp0 hn0 hb H
    obtain ⟨v2, v3, v4, vh⟩ := id V
    refine WP.of (RUN.mono GQ _) (cuts := [13]) (n := 400) (v_X7_busiest_13 _ _ _ _ _ _ ?_)
    refine ⟨M.k0, ?_⟩
    try rw [M.f4]
    refine ⟨ir (by omega) (by omega), ir (by omega) (by omega), fun c18 => ?_, fun c18 => ?_⟩
    · exfalso; omega
    · exact H _ rfl
  | succ n ih =>
    intro bs p hp0 hn0 hb H
    obtain ⟨v2, v3, v4, vh⟩ := id V
    have q1 := I.qn (p := p) ⟨by omega, by omega⟩
    have q13 := I.hq.1
    have q2 : bs ≠ -1 → 0 ≤ s (115 + bs) ∧ s (115 + bs) ≤ 13 := fun h => by have := I.qn (p := bs) ⟨by omega, by omega⟩; omega
    refine WP.of (RUN.mono GQ _) (cuts := [13]) (n := 400) (v_X7_busiest_13 _ _ _ _ _ _ ?_)
    refine ⟨M.k0, ?_⟩
    try rw [M.f4]
    refine ⟨ir (by omega) (by omega), ir (by omega) (by omega), fun c18 => ?_, fun c18 => ?_⟩
    · refine ⟨ir (by omega) (by omega), ir (by omega) (by omega), fun c23 => ?_, fun c23 => ?_⟩
      · refine ih _ _ (by omega) (by omega) (by omega) ?_
        have e : bsl s (n + 1) p bs = bsl s n (p + 1) (if bs = -1 ∨ s (115 + bs) < s (115 + p) then p else bs) := rfl
        rw [e] at H
        first | (rw [if_pos (by omega)] at H; exact H) | (rw [if_neg (by omega)] at H; exact H)
      · refine ⟨M.k0, ?_⟩
        try rw [M.r11]
        refine M.ld6 (by omega) (by omega) (fun er => ?_)
        try rw [er]
        clear er
        refine ⟨M.k0, ?_⟩
        try rw [M.r11]
        refine M.ld6 (by omega) (by omega) (fun er => ?_)
        try rw [er]
        clear er
        refine ⟨ir (by omega) (by omega), ir (by omega) (by omega), fun c44 => ?_, fun c44 => ?_⟩
        · refine ih _ _ (by omega) (by omega) (by omega) ?_
          have e : bsl s (n + 1) p bs = bsl s n (p + 1) (if bs = -1 ∨ s (115 + bs) < s (115 + p) then p else bs) := rfl
          rw [e] at H
          first | (rw [if_pos (by omega)] at H; exact H) | (rw [if_neg (by omega)] at H; exact H)
        · refine ih _ _ (by omega) (by omega) (by omega) ?_
          have e : bsl s (n + 1) p bs = bsl s n (p + 1) (if bs = -1 ∨ s (115 + bs) < s (115 + p) then p else bs) := rfl
          rw [e] at H
          first | (rw [if_pos (by omega)] at H; exact H) | (rw [if_neg (by omega)] at H; exact H)
    · exfalso; omega
theorem S_X7_busiest {d b : Nat} {h0 h : PH} {D : Nat → Int → Int} {s : Int → Int} {t : Int} {Q : Int → PH → Prop} {X : Nat → PH → Prop} {N : Int} (M : Mt b h0 h D s t) (W : WD D s N)  (H : ∀ (x : Int) h', ((tL D) = 0 → x = bsl s (D 0 4).toNat 0 (-1)) → Mt b h0 h' D s ((tL D)) → Q x h') : RUN GQ (d + 3) m_X7_busiest [pA b] h Q X := by
  obtain ⟨w1, w2, w3, wN, ws1, wI⟩ := id W
  have kL := tL_or D
  rw [e_X7_busiest]
  refine WP.of (RUN.mono GQ _) (cuts := [13]) (n := 400) (v_X7_busiest_0 _ _ _ _ _ _ ?_)
  refine ⟨M.k0, ?_⟩
  refine S_X7_notLoaded M W (fun x1 h1 e1 M1 => ?_)
  refine ⟨ir (by omega) (by omega), fun c4 => ?_, fun c4 => ?_⟩
  · obtain ⟨I, V, sw⟩ := wI (by omega)
    obtain ⟨v2, v3, v4, vh⟩ := id V
    refine L_X7_busiest_13 M1 I wN V ((D 0 4).toNat) _ _ (by omega) (by omega) (by omega) ?_
    refine fun x e => H x _ (fun _ => e) (M1.castT (by omega))
  · refine H _ _ (fun hT => ?_) (M1.castT (by omega))
    first
    | (exfalso; omega)
    | (first | rfl | omega)
theorem L_X7_tiredest_14 {d b : Nat} {h0 h : PH} {D : Nat → Int → Int} {s : Int → Int} {t : Int} {Q : Int → PH → Prop} {X : Nat → PH → Prop} {N : Int} {p : Int} (M : Mt b h0 h D s t) (I : HI (D 0 3) (D 0 4) (D 0 2) N s) (hN : N ≤ 1990000000) (V : PIv D) (hp6 : 0 ≤ p ∧ p < 6) : ∀ (n : Nat) (bs k : Int), (0 ≤ k) → (k + n = D 0 3) → (bs = -1 ∨ 0 ≤ bs ∧ bs < k) → (∀ x : Int, x = trl s p n k bs → Q x h) → WP k_X7_tiredest [] (RUN GQ (d + 3)) 0 0 (d + 4) Q X 14 [some (pA b), some (pI p), some (pI bs), some (pI k)] [] h 0 0 := by
  intro n
  induction n with
  | zero =>
    intro bs k hk0 hn0 hb H
    obtain ⟨v2, v3, v4, vh⟩ := id V
    refine WP.of (RUN.mono GQ _) (cuts := [14]) (n := 400) (v_X7_tiredest_14 _ _ _ _ _ _ _ ?_)
    refine ⟨M.k0, ?_⟩
    try rw [M.f3]
    refine ⟨ir (by omega) (by omega), ir (by omega) (by omega), fun c19 => ?_, fun c19 => ?_⟩
    · exfalso; omega
    · exact H _ rfl
  | succ n ih =>
    intro bs k hk0 hn0 hb H
    obtain ⟨v2, v3, v4, vh⟩ := id V
    have q1 := I.td (p := p) (k := k) hp6 ⟨by omega, by omega⟩
    have q2 : bs ≠ -1 → 0 ≤ td s p bs ∧ td s p bs ≤ 99 := fun h => I.td hp6 ⟨by omega, by omega⟩
    refine WP.of (RUN.mono GQ _) (cuts := [14]) (n := 400) (v_X7_tiredest_14 _ _ _ _ _ _ _ ?_)
    refine ⟨M.k0, ?_⟩
    try rw [M.f3]
    refine ⟨ir (by omega) (by omega), ir (by omega) (by omega), fun c19 => ?_, fun c19 => ?_⟩
    · refine ⟨ir (by omega) (by omega), ir (by omega) (by omega), fun c24 => ?_, fun c24 => ?_⟩
      · refine ih _ _ (by omega) (by omega) (by omega) ?_
        have e : trl s p (n + 1) k bs = trl s p n (k + 1) (if bs = -1 ∨ td s p bs < td s p k then k else bs) := rfl
        rw [e] at H
        first | (rw [if_pos (by omega)] at H; exact H) | (rw [if_neg (by omega)] at H; exact H)
      · refine ⟨M.k0, ?_⟩
        refine S_X7_tiredOf M (by omega) (by omega) (fun x30 e30 => ?_)
        subst e30
        refine ⟨M.k0, ?_⟩
        refine S_X7_tiredOf M (by omega) (by omega) (fun x36 e36 => ?_)
        subst e36
        refine ⟨ir (by omega) (by omega), ir (by omega) (by omega), fun c39 => ?_, fun c39 => ?_⟩
        · refine ih _ _ (by omega) (by omega) (by omega) ?_
          have e : trl s p (n + 1) k bs = trl s p n (k + 1) (if bs = -1 ∨ td s p bs < td s p k then k else bs) := rfl
          rw [e] at H
          first | (rw [if_pos (by omega)] at H; exact H) | (rw [if_neg (by omega)] at H; exact H)
        · refine ih _ _ (by omega) (by omega) (by omega) ?_
          have e : trl s p (n + 1) k bs = trl s p n (k + 1) (if bs = -1 ∨ td s p bs < td s p k then k else bs) := rfl
          rw [e] at H
          first | (rw [if_pos (by omega)] at H; exact H) | (rw [if_neg (by omega)] at H; exact H)
    · exfalso; omega
theorem S_X7_tiredest {d b : Nat} {h0 h : PH} {D : Nat → Int → Int} {s : Int → Int} {t : Int} {Q : Int → PH → Prop} {X : Nat → PH → Prop} {N : Int} {p : Int} (M : Mt b h0 h D s t) (W : WD D s N) (hvp : InR p) (H : ∀ (x : Int) h', (ck (tL D) p 0 (D 0 4 - 1) 2 = 0 → x = trl s p (D 0 3).toNat 0 (-1)) → Mt b h0 h' D s (ck (tL D) p 0 (D 0 4 - 1) 2) → Q x h') : RUN GQ (d + 4) m_X7_tiredest [pA b, pI p] h Q X := by
  obtain ⟨w1, w2, w3, wN, ws1, wI⟩ := id W
  have kL := tL_or D
  have k1 := ck_or (tL D) p 0 (D 0 4 - 1) 2
  rw [e_X7_tiredest]
  refine WP.of (RUN.mono GQ _) (cuts := [14]) (n := 400) (v_X7_tiredest_0 _ _ _ _ _ _ _ ?_)
  refine ⟨M.k0, ?_⟩
  refine S_X7_noProgram M W (by omega) (fun x2 h2 e2 M2 => ?_)
  refine ⟨ir (by omega) (by omega), fun c5 => ?_, fun c5 => ?_⟩
  · obtain ⟨I, V, sw⟩ := wI (by omega)
    obtain ⟨v2, v3, v4, vh⟩ := id V
    have hp6 : 0 ≤ p ∧ p < 6 := by omega
    have qn := I.qn hp6
    have q13 := I.hq.1
    have sn := I.sn hp6
    refine L_X7_tiredest_14 M2 I wN V hp6 ((D 0 3).toNat) _ _ (by omega) (by omega) (by omega) ?_
    refine fun x e => H x _ (fun _ => e) (M2.castT (by omega))
  · refine H _ _ (fun hT => ?_) (M2.castT (by omega))
    first
    | (exfalso; omega)
    | (first | rfl | omega)
theorem L_X7_oldest_13 {d b : Nat} {h0 h : PH} {D : Nat → Int → Int} {s : Int → Int} {t : Int} {Q : Int → PH → Prop} {X : Nat → PH → Prop} {N : Int} (M : Mt b h0 h D s t) (I : HI (D 0 3) (D 0 4) (D 0 2) N s) (hN : N ≤ 1990000000) (V : PIv D) : ∀ (n : Nat) (l p : Int) (z3 : Option PV), (0 ≤ p) → (p + n = D 0 4) → (-1 ≤ l ∧ l ≤ 2000000000) → (∀ x : Int, x = ool s n p l → Q x h) → WP k_X7_oldest [] (RUN GQ (d + 2)) 0 0 (d + 3) Q X 13 [some (pA b), some (pI l), some (pI p), z3] [] h 0 0 := by
  intro n
  induction n with
  | zero =>
    intro l p z3 hp0 hn0 hb H
    obtain ⟨v2, v3, v4, vh⟩ := id V
    refine WP.of (RUN.mono GQ _) (cuts := [13]) (n := 400) (v_X7_oldest_13 _ _ _ _ _ _ _ ?_)
    refine ⟨M.k0, ?_⟩
    try rw [M.f4]
    refine ⟨ir (by omega) (by omega), ir (by omega) (by omega), fun c18 => ?_, fun c18 => ?_⟩
    · exfalso; omega
    · exact H _ rfl
  | succ n ih =>
    intro l p z3 hp0 hn0 hb H
    obtain ⟨v2, v3, v4, vh⟩ := id V
    have q1 := I.qn (p := p) ⟨by omega, by omega⟩
    have q13 := I.hq.1
    have e1 := I.e1
    have q2 : 0 < s (115 + p) → 0 ≤ qv s p 0 0 ∧ qv s p 0 0 < s 1 := fun h => (I.qe (p := p) (i := 0) ⟨by omega, by omega⟩ ⟨by omega, h⟩).1
    refine WP.of (RUN.mono GQ _) (cuts := [13]) (n := 400) (v_X7_oldest_13 _ _ _ _ _ _ _ ?_)
    refine ⟨M.k0, ?_⟩
    try rw [M.f4]
    refine ⟨ir (by omega) (by omega), ir (by omega) (by omega), fun c18 => ?_, fun c18 => ?_⟩
    · refine ⟨M.k0, ?_⟩
      try rw [M.r11]
      refine M.ld6 (by omega) (by omega) (fun er => ?_)
      try rw [er]
      clear er
      refine ⟨ir (by omega) (by omega), fun c30 => ?_, fun c30 => ?_⟩
      · refine ⟨ir (by omega) (by omega), ir (by omega) (by omega), fun c35 => ?_, fun c35 => ?_⟩
        · refine ⟨ir (by omega) (by omega), fun c56 => ?_, fun c56 => ?_⟩
          · exfalso; omega
          · refine ⟨M.k0, ?_⟩
            refine S_X7_inQueue M (by omega) (by omega) (by omega) (fun x63 e63 => ?_)
            subst e63
            refine ih _ _ _ (by omega) (by omega) (by omega) ?_
            have e : ool s (n + 1) p l = ool s n (p + 1) (if 0 < s (115 + p) ∧ (l = -1 ∨ qv s p 0 0 < l) then qv s p 0 0 else l) := rfl
            rw [e] at H
            first | (rw [if_pos (by omega)] at H; exact H) | (rw [if_neg (by omega)] at H; exact H)
        · refine ⟨M.k0, ?_⟩
          refine S_X7_inQueue M (by omega) (by omega) (by omega) (fun x42 e42 => ?_)
          subst e42
          refine ⟨ir (by omega) (by omega), ir (by omega) (by omega), fun c46 => ?_, fun c46 => ?_⟩
          · refine ⟨ir (by omega) (by omega), fun c56 => ?_, fun c56 => ?_⟩
            · exfalso; omega
            · refine ⟨M.k0, ?_⟩
              refine S_X7_inQueue M (by omega) (by omega) (by omega) (fun x63 e63 => ?_)
              subst e63
              refine ih _ _ _ (by omega) (by omega) (by omega) ?_
              have e : ool s (n + 1) p l = ool s n (p + 1) (if 0 < s (115 + p) ∧ (l = -1 ∨ qv s p 0 0 < l) then qv s p 0 0 else l) := rfl
              rw [e] at H
              first | (rw [if_pos (by omega)] at H; exact H) | (rw [if_neg (by omega)] at H; exact H)
          · refine ⟨ir (by omega) (by omega), fun c56 => ?_, fun c56 => ?_⟩
            · refine ih _ _ _ (by omega) (by omega) (by omega) ?_
              have e : ool s (n + 1) p l = ool s n (p + 1) (if 0 < s (115 + p) ∧ (l = -1 ∨ qv s p 0 0 < l) then qv s p 0 0 else l) := rfl
              rw [e] at H
              first | (rw [if_pos (by omega)] at H; exact H) | (rw [if_neg (by omega)] at H; exact H)
            · exfalso; omega
      · refine ⟨ir (by omega) (by omega), fun c56 => ?_, fun c56 => ?_⟩
        · refine ih _ _ _ (by omega) (by omega) (by omega) ?_
          have e : ool s (n + 1) p l = ool s n (p + 1) (if 0 < s (115 + p) ∧ (l = -1 ∨ qv s p 0 0 < l) then qv s p 0 0 else l) := rfl
          rw [e] at H
          first | (rw [if_pos (by omega)] at H; exact H) | (rw [if_neg (by omega)] at H; exact H)
        · exfalso; omega
    · exfalso; omega
theorem S_X7_oldest {d b : Nat} {h0 h : PH} {D : Nat → Int → Int} {s : Int → Int} {t : Int} {Q : Int → PH → Prop} {X : Nat → PH → Prop} {N : Int} (M : Mt b h0 h D s t) (W : WD D s N)  (H : ∀ (x : Int) h', ((tL D) = 0 → x = ool s (D 0 4).toNat 0 (-1)) → Mt b h0 h' D s ((tL D)) → Q x h') : RUN GQ (d + 3) m_X7_oldest [pA b] h Q X := by
  obtain ⟨w1, w2, w3, wN, ws1, wI⟩ := id W
  have kL := tL_or D
  rw [e_X7_oldest]
  refine WP.of (RUN.mono GQ _) (cuts := [13]) (n := 400) (v_X7_oldest_0 _ _ _ _ _ _ _ ?_)
  refine ⟨M.k0, ?_⟩
  refine S_X7_notLoaded M W (fun x1 h1 e1 M1 => ?_)
  refine ⟨ir (by omega) (by omega), fun c4 => ?_, fun c4 => ?_⟩
  · obtain ⟨I, V, sw⟩ := wI (by omega)
    obtain ⟨v2, v3, v4, vh⟩ := id V
    refine L_X7_oldest_13 M1 I wN V ((D 0 4).toNat) _ _ _ (by omega) (by omega) (by omega) ?_
    refine fun x e => H x _ (fun _ => e) (M1.castT (by omega))
  · refine H _ _ (fun hT => ?_) (M1.castT (by omega))
    first
    | (exfalso; omega)
    | (first | rfl | omega)
theorem S_X7_loser {d b : Nat} {h0 h : PH} {D : Nat → Int → Int} {s : Int → Int} {t : Int} {Q : Int → PH → Prop} {X : Nat → PH → Prop} {N : Int} {p k : Int} (M : Mt b h0 h D s t) (W : WD D s N) (hvp : InR p) (hvk : InR k) (H : ∀ (x : Int) h', (ck (ck (tL D) p 0 (D 0 4 - 1) 2) k 0 (D 0 3 - 1) 2 = 0 → x = losv D s p k) → Mt b h0 h' D s (ck (ck (tL D) p 0 (D 0 4 - 1) 2) k 0 (D 0 3 - 1) 2) → Q x h') : RUN GQ (d + 5) m_X7_loser [pA b, pI p, pI k] h Q X := by
  obtain ⟨w1, w2, w3, wN, ws1, wI⟩ := id W
  have kL := tL_or D
  have k1 := ck_or (tL D) p 0 (D 0 4 - 1) 2
  have k2 := ck_or (ck (tL D) p 0 (D 0 4 - 1) 2) k 0 (D 0 3 - 1) 2
  rw [e_X7_loser]
  refine WP.of (RUN.mono GQ _) (cuts := []) (n := 400) (v_X7_loser_0 _ _ _ _ _ _ _ _ ?_)
  refine ⟨M.k0, ?_⟩
  refine S_X7_noPair M W (by omega) (by omega) (fun x3 h3 e3 M3 => ?_)
  refine ⟨ir (by omega) (by omega), fun c6 => ?_, fun c6 => ?_⟩
  · obtain ⟨I, V, sw⟩ := wI (by omega)
    obtain ⟨v2, v3, v4, vh⟩ := id V
    have hp6 : 0 ≤ p ∧ p < 6 := by omega
    have qn := I.qn hp6
    have q13 := I.hq.1
    have sn := I.sn hp6
    have uk := I.ur (p := p) (k := k) hp6 ⟨by omega, by omega⟩
    have e1 := I.e1
    refine ⟨M3.k0, ?_⟩
    try rw [M3.r11]
    refine M3.ld6 (by omega) (by omega) (fun er => ?_)
    try rw [er]
    clear er
    refine ⟨M3.k0, ?_⟩
    try rw [M3.f2]
    refine ⟨ir (by omega) (by omega), ir (by omega) (by omega), fun c24 => ?_, fun c24 => ?_⟩
    · refine H _ _ (fun hT => ?_) (M3.castT (by omega))
      first
      | (exfalso; omega)
      | (unfold losv; (repeat' split) <;> first | rfl | (exfalso; omega))
    · have pl := plc_spec (s := s) (p := p) (x := s (115 + p) - 1) ⟨by omega, by omega⟩
      have qe := I.qe hp6 pl.1
      unfold QE at qe
      have ul := I.ur (p := p) (k := qv s p (plc s p (s (115 + p) - 1)) 1) hp6 ⟨by omega, by omega⟩
      refine ⟨M3.k0, ?_⟩
      try rw [M3.r11]
      refine M3.ld6 (by omega) (by omega) (fun er => ?_)
      try rw [er]
      clear er
      refine ⟨M3.k0, ?_⟩
      refine S_X7_placeOf M3 I v3 (by omega) (by omega) (by omega) (fun x42 e42 => ?_)
      subst e42
      refine ⟨M3.k0, ?_⟩
      refine S_X7_urgencyOf M3 (by omega) (by omega) (by exact uk.2) (fun x49 e49 => ?_)
      subst e49
      refine ⟨M3.k0, ?_⟩
      refine S_X7_inQueue M3 (by omega) (by omega) (by omega) (fun x58 e58 => ?_)
      subst e58
      refine ⟨M3.k0, ?_⟩
      refine S_X7_urgencyOf M3 (by omega) (by omega) (by exact ul.2) (fun x61 e61 => ?_)
      subst e61
      refine ⟨ir (by omega) (by omega), ir (by omega) (by omega), fun c64 => ?_, fun c64 => ?_⟩
      · refine ⟨ir (by omega) (by omega), fun c76 => ?_, fun c76 => ?_⟩
        · refine ⟨M3.k0, ?_⟩
          refine S_X7_inQueue M3 (by omega) (by omega) (by omega) (fun x92 e92 => ?_)
          subst e92
          refine H _ _ (fun hT => ?_) (M3.castT (by omega))
          first
          | (exfalso; omega)
          | (unfold losv; (repeat' split) <;> first | rfl | (exfalso; omega))
        · exfalso; omega
      · refine ⟨ir (by omega) (by omega), fun c76 => ?_, fun c76 => ?_⟩
        · exfalso; omega
        · refine ⟨M3.k0, ?_⟩
          try rw [M3.r11]
          refine M3.ld6 (by omega) (by omega) (fun er => ?_)
          try rw [er]
          clear er
          refine H _ _ (fun hT => ?_) (M3.castT (by omega))
          first
          | (exfalso; omega)
          | (unfold losv; (repeat' split) <;> first | rfl | (exfalso; omega))
  · refine H _ _ (fun hT => ?_) (M3.castT (by omega))
    first
    | (exfalso; omega)
    | (unfold losv; (repeat' split) <;> first | rfl | (exfalso; omega))
theorem L_X7_raises_21 {d b : Nat} {h0 h : PH} {D : Nat → Int → Int} {s : Int → Int} {t : Int} {Q : Int → PH → Prop} {X : Nat → PH → Prop} {p k : Int} {j hd : Int} (M : Mt b h0 h D s t) (hp : 0 ≤ p ∧ p < 6) (hkk : InR k) (V : PIv D) (hh0 : 0 ≤ hd ∧ hd < 48) : ∀ (n : Nat) (i : Int) (z6 : Option PV), (0 ≤ i) → (i + n = D 4 hd) → ((ral D hd k n i = 1 → Q 1 h) ∧ (ral D hd k n i = 0 → ∀ z4 z5 z6 : Option PV, WP k_X7_raises [] (RUN GQ d) 0 0 (d + 1) Q X 2 [some (pA b), some (pI p), some (pI k), some (pI (j + 1)), z4, z5, z6] [] h 0 0)) → WP k_X7_raises [] (RUN GQ (d + 0)) 0 0 (d + 1) Q X 21 [some (pA b), some (pI p), some (pI k), some (pI j), some (pI hd), some (pI i), z6] [] h 0 0 := by
  intro n
  induction n with
  | zero =>
    intro i z6 hi0 hn0 H
    obtain ⟨v2, v3, v4, vh⟩ := id V
    have hh := vh hd hh0.1 hh0.2
    refine WP.of (RUN.mono GQ _) (cuts := [2, 21]) (n := 400) (v_X7_raises_21 _ _ _ _ _ _ _ _ _ _ ?_)
    refine ⟨M.k0, ?_⟩
    try rw [M.r9]
    refine M.ld4 (by omega) (by omega) (fun er => ?_)
    try rw [er]
    clear er
    refine ⟨ir (by omega) (by omega), ir (by omega) (by omega), fun c30 => ?_, fun c30 => ?_⟩
    · exfalso; omega
    · exact H.2 rfl _ _ _
  | succ n ih =>
    intro i z6 hi0 hn0 H
    obtain ⟨v2, v3, v4, vh⟩ := id V
    have hh := vh hd hh0.1 hh0.2
    obtain ⟨a1, a2, a3, a4, a5⟩ := hh.2.2 i hi0 (by omega)
    refine WP.of (RUN.mono GQ _) (cuts := [2, 21]) (n := 400) (v_X7_raises_21 _ _ _ _ _ _ _ _ _ _ ?_)
    refine ⟨M.k0, ?_⟩
    try rw [M.r9]
    refine M.ld4 (by omega) (by omega) (fun er => ?_)
    try rw [er]
    clear er
    refine ⟨ir (by omega) (by omega), ir (by omega) (by omega), fun c30 => ?_, fun c30 => ?_⟩
    · refine ⟨M.k0, ?_⟩
      try rw [M.r10]
      refine M.ld5 (by omega) (by omega) (fun er => ?_)
      try rw [er]
      clear er
      refine ⟨ir (by omega) (by omega), fun c51 => ?_, fun c51 => ?_⟩
      · refine ⟨M.k0, ?_⟩
        try rw [M.r10]
        refine M.ld5 (by omega) (by omega) (fun er => ?_)
        try rw [er]
        clear er
        refine ⟨ir (by omega) (by omega), ir (by omega) (by omega), fun c64 => ?_, fun c64 => ?_⟩
        · refine ⟨(by omega), ?_⟩
          exact H.1 (by rw [ral, if_pos (by omega)])
        · refine ih _ _ (by omega) (by omega) ?_
          rw [ral, if_neg (by omega)] at H
          exact H
      · refine ih _ _ (by omega) (by omega) ?_
        rw [ral, if_neg (by omega)] at H
        exact H
    · exfalso; omega
theorem L_X7_raises_2 {d b : Nat} {h0 h : PH} {D : Nat → Int → Int} {s : Int → Int} {t : Int} {Q : Int → PH → Prop} {X : Nat → PH → Prop} {p k : Int} (M : Mt b h0 h D s t) (hp : 0 ≤ p ∧ p < 6) (hkk : InR k) (V : PIv D) : ∀ (n : Nat) (j : Int) (z4 z5 z6 : Option PV), (0 ≤ j) → (j + n = D 0 3) → (∀ x : Int, x = rak D p k n j → Q x h) → WP k_X7_raises [] (RUN GQ (d + 0)) 0 0 (d + 1) Q X 2 [some (pA b), some (pI p), some (pI k), some (pI j), z4, z5, z6] [] h 0 0 := by
  intro n
  induction n with
  | zero =>
    intro j z4 z5 z6 hj0 hn0 H
    obtain ⟨v2, v3, v4, vh⟩ := id V
    refine WP.of (RUN.mono GQ _) (cuts := [2, 21]) (n := 400) (v_X7_raises_2 _ _ _ _ _ _ _ _ _ _ ?_)
    refine ⟨M.k0, ?_⟩
    try rw [M.f3]
    refine ⟨ir (by omega) (by omega), ir (by omega) (by omega), fun c7 => ?_, fun c7 => ?_⟩
    · exfalso; omega
    · refine ⟨(by omega), ?_⟩
      exact H _ rfl
  | succ n ih =>
    intro j z4 z5 z6 hj0 hn0 H
    obtain ⟨v2, v3, v4, vh⟩ := id V
    have hh := vh (8 * p + j) (by omega) (by omega)
    refine WP.of (RUN.mono GQ _) (cuts := [2, 21]) (n := 400) (v_X7_raises_2 _ _ _ _ _ _ _ _ _ _ ?_)
    refine ⟨M.k0, ?_⟩
    try rw [M.f3]
    refine ⟨ir (by omega) (by omega), ir (by omega) (by omega), fun c7 => ?_, fun c7 => ?_⟩
    · refine L_X7_raises_21 M hp hkk V (by omega) ((D 4 (8 * p + j)).toNat) _ _ (by omega) (by omega) ?_
      have e : rak D p k (n + 1) j = if ral D (8 * p + j) k (D 4 (8 * p + j)).toNat 0 = 1 then 1 else rak D p k n (j + 1) := rfl
      rw [e] at H
      exact ⟨fun q => H _ (by rw [if_pos q]), fun q _ _ _ => ih _ _ _ _ (by omega) (by omega) (by rw [if_neg (by omega)] at H; exact H)⟩
    · exfalso; omega
theorem S_X7_raises {d b : Nat} {h0 h : PH} {D : Nat → Int → Int} {s : Int → Int} {t : Int} {Q : Int → PH → Prop} {X : Nat → PH → Prop} {p k : Int} (M : Mt b h0 h D s t) (hp : 0 ≤ p ∧ p < 6) (hkk : InR k) (V : PIv D) (H : ∀ x : Int, x = (rak D p k (D 0 3).toNat 0) → Q x h) : RUN GQ (d + 1) m_X7_raises [pA b, pI p, pI k] h Q X := by
  obtain ⟨v2, v3, v4, vh⟩ := id V
  rw [e_X7_raises]
  refine WP.of (RUN.mono GQ _) (cuts := [2, 21]) (n := 400) (v_X7_raises_0 _ _ _ _ _ _ _ _ _ _ ?_)
  refine L_X7_raises_2 M hp hkk V ((D 0 3).toNat) _ _ _ _ (by omega) (by omega) ?_
  exact H
theorem L_X7_raisers_14 {d b : Nat} {h0 h : PH} {D : Nat → Int → Int} {s : Int → Int} {t : Int} {Q : Int → PH → Prop} {X : Nat → PH → Prop} {N : Int} {k : Int} (M : Mt b h0 h D s t) (I : HI (D 0 3) (D 0 4) (D 0 2) N s) (hN : N ≤ 1990000000) (V : PIv D) (hvk : InR k) : ∀ (n : Nat) (acc p : Int), (0 ≤ p) → (p + n = D 0 4) → (∀ x : Int, x = rasl D k n p acc → Q x h) → WP k_X7_raisers [] (RUN GQ (d + 3)) 0 0 (d + 4) Q X 14 [some (pA b), some (pI k), some (pI acc), some (pI p)] [] h 0 0 := by
  intro n
  induction n with
  | zero =>
    intro acc p hp0 hn0 H
    obtain ⟨v2, v3, v4, vh⟩ := id V
    refine WP.of (RUN.mono GQ _) (cuts := [14]) (n := 400) (v_X7_raisers_14 _ _ _ _ _ _ _ ?_)
    refine ⟨M.k0, ?_⟩
    try rw [M.f4]
    refine ⟨ir (by omega) (by omega), ir (by omega) (by omega), fun c19 => ?_, fun c19 => ?_⟩
    · exfalso; omega
    · exact H _ rfl
  | succ n ih =>
    intro acc p hp0 hn0 H
    obtain ⟨v2, v3, v4, vh⟩ := id V
    have r01 := rak_01 (D := D) (p := p) (k := k) (D 0 3).toNat 0
    refine WP.of (RUN.mono GQ _) (cuts := [14]) (n := 400) (v_X7_raisers_14 _ _ _ _ _ _ _ ?_)
    refine ⟨M.k0, ?_⟩
    try rw [M.f4]
    refine ⟨ir (by omega) (by omega), ir (by omega) (by omega), fun c19 => ?_, fun c19 => ?_⟩
    · refine ⟨M.k0, ?_⟩
      refine S_X7_raises M (by omega) (by omega) (by exact V) (fun x26 e26 => ?_)
      subst e26
      refine S_X7_flag (by omega) (fun x29 e29 => ?_)
      subst e29
      refine ih _ _ (by omega) (by omega) ?_
      exact H
    · exfalso; omega
theorem S_X7_raisers {d b : Nat} {h0 h : PH} {D : Nat → Int → Int} {s : Int → Int} {t : Int} {Q : Int → PH → Prop} {X : Nat → PH → Prop} {N : Int} {k : Int} (M : Mt b h0 h D s t) (W : WD D s N) (hvk : InR k) (H : ∀ (x : Int) h', (ck (tL D) k 0 (D 0 3 - 1) 2 = 0 → x = rasl D k (D 0 4).toNat 0 0) → Mt b h0 h' D s (ck (tL D) k 0 (D 0 3 - 1) 2) → Q x h') : RUN GQ (d + 4) m_X7_raisers [pA b, pI k] h Q X := by
  obtain ⟨w1, w2, w3, wN, ws1, wI⟩ := id W
  have kL := tL_or D
  have k1 := ck_or (tL D) k 0 (D 0 3 - 1) 2
  rw [e_X7_raisers]
  refine WP.of (RUN.mono GQ _) (cuts := [14]) (n := 400) (v_X7_raisers_0 _ _ _ _ _ _ _ ?_)
  refine ⟨M.k0, ?_⟩
  refine S_X7_noKind M W (by omega) (fun x2 h2 e2 M2 => ?_)
  refine ⟨ir (by omega) (by omega), fun c5 => ?_, fun c5 => ?_⟩
  · obtain ⟨I, V, sw⟩ := wI (by omega)
    obtain ⟨v2, v3, v4, vh⟩ := id V
    refine L_X7_raisers_14 M2 I wN V hvk ((D 0 4).toNat) _ _ (by omega) (by omega) ?_
    refine fun x e => H x _ (fun _ => e) (M2.castT (by omega))
  · refine H _ _ (fun hT => ?_) (M2.castT (by omega))
    first
    | (exfalso; omega)
    | (first | rfl | omega)
