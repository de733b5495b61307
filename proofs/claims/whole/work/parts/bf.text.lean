/-! the class writes (written by wip/whole/tools/eng.py) -/
section VCS
variable {call : PC} {mc ms fr : Nat} {Q : Int → PH → Prop} {X : Nat → PH → Prop} {K : PK}
set_option maxRecDepth 100000 in
theorem v_X6_endLetter_0 (i0 : Int) (h : PH) (c s : Nat) (H : InR i0 ∧ (i0 < 0 →
 (0 ≤ (32 : Int) ∧ (32 : Int) ≤ 127) ∧ Q 32 h) ∧
(0 ≤ i0 →
 6 ≤ fr ∧ hk h 10 = 27 ∧ InR i0 ∧ InR ((hl h 10 : Int)) ∧ (i0 < ((hl h 10 : Int)) →
 6 ≤ fr ∧ hk h 10 = 27 ∧ (0 ≤ i0 ∧ i0 < hl h 10) ∧ (0 ≤ (hi h 10 (Int.toNat i0)) ∧ (hi h 10 (Int.toNat i0)) ≤ 127) ∧ Q (hi h 10 (Int.toNat i0)) h) ∧
(((hl h 10 : Int)) ≤ i0 →
 (0 ≤ (32 : Int) ∧ (32 : Int) ≤ 127) ∧ Q 32 h))) : wpc k_X6_endLetter [] call mc ms fr Q X [] K 400 (pto 0 k_X6_endLetter) [some (pI i0)] [] h c s :=
  H
set_option maxRecDepth 100000 in
theorem v_X6_writeQueue_0 (a0 : Nat) (i1 : Int) (z2 : Option PV) (z3 : Option PV) (h : PH) (c s : Nat) (H : hk h a0 = 7 ∧ (c + 1 ≤ mc ∧ s + 6 ≤ ms) ∧ call m_X6_needHall [pA a0] h (fun _ h1 =>
 hk h1 a0 = 7 ∧ ((c + 1) + 1 ≤ mc ∧ (s + 6) + 6 ≤ ms) ∧ call m_X6_needProgram [pA a0, pI i1] h1 (fun _ h2 =>
 hk h2 a0 = 7 ∧ hk h2 (hr h2 a0 14) = 4 ∧ call m_X3_restart [pA (hr h2 a0 14)] h2 (fun _ h3 =>
 K 18 [some (pA a0), some (pI i1), some (pI 0), z3] [] h3 ((c + 1) + 1) ((s + 6) + 6)) X) X) X) : wpc k_X6_writeQueue [] call mc ms fr Q X [18] K 400 (pto 0 k_X6_writeQueue) [some (pA a0), some (pI i1), z2, z3] [] h c s :=
  H
set_option maxRecDepth 100000 in
theorem v_X6_writeQueue_18 (a0 : Nat) (i1 : Int) (i2 : Int) (z3 : Option PV) (h : PH) (c s : Nat) (H : hk h a0 = 7 ∧ hk h (hr h a0 6) = 1 ∧ hk h (hr h (hr h a0 6) 5) = 2 ∧ call m_X1_sizeOf [pA (hr h (hr h a0 6) 5), pI i1] h (fun x1 h1 =>
 InR i2 ∧ InR x1 ∧ (i2 < x1 →
 hk h1 a0 = 7 ∧ hk h1 (hr h1 a0 6) = 1 ∧ call m_X0_placeInOrder [pA (hr h1 a0 6), pI i1, pI i2] h1 (fun x2 h2 =>
 InR i2 ∧ (0 < i2 →
 hk h2 a0 = 7 ∧ hk h2 (hr h2 a0 14) = 4 ∧ call m_X3_putByte [pA (hr h2 a0 14), pI 32] h2 (fun _ h3 =>
 hk h3 a0 = 7 ∧ hk h3 a0 = 7 ∧ hk h3 (hr h3 a0 6) = 1 ∧ hk h3 (hr h3 (hr h3 a0 6) 5) = 2 ∧ call m_X1_part [pA (hr h3 (hr h3 a0 6) 5), pI i1, pI x2, pI 0] h3 (fun x4 h4 =>
 hk h4 (hr h3 a0 14) = 4 ∧ call m_X3_putNumber [pA (hr h3 a0 14), pI x4] h4 (fun _ h5 =>
 hk h5 a0 = 7 ∧ hk h5 (hr h5 a0 14) = 4 ∧ call m_X3_putByte [pA (hr h5 a0 14), pI 46] h5 (fun _ h6 =>
 hk h6 a0 = 7 ∧ hk h6 a0 = 7 ∧ hk h6 (hr h6 a0 5) = 6 ∧ hk h6 a0 = 7 ∧ hk h6 (hr h6 a0 6) = 1 ∧ hk h6 (hr h6 (hr h6 a0 6) 5) = 2 ∧ call m_X1_part [pA (hr h6 (hr h6 a0 6) 5), pI i1, pI x2, pI 1] h6 (fun x7 h7 =>
 hk h7 (hr h6 a0 14) = 4 ∧ call m_X3_putName [pA (hr h6 a0 14), pA (hr h6 (hr h6 a0 5) 0), pI x7] h7 (fun _ h8 =>
 hk h8 a0 = 7 ∧ hk h8 (hr h8 a0 14) = 4 ∧ call m_X3_putByte [pA (hr h8 a0 14), pI 61] h8 (fun _ h9 =>
 hk h9 a0 = 7 ∧ hk h9 a0 = 7 ∧ hk h9 (hr h9 a0 6) = 1 ∧ hk h9 (hr h9 (hr h9 a0 6) 5) = 2 ∧ call m_X1_part [pA (hr h9 (hr h9 a0 6) 5), pI i1, pI x2, pI 3] h9 (fun x10 h10 =>
 hk h10 (hr h9 a0 14) = 4 ∧ call m_X3_putNumber [pA (hr h9 a0 14), pI x10] h10 (fun _ h11 =>
 K 18 [some (pA a0), some (pI i1), some (pI (i2 + 1)), some (pI x2)] [] h11 c s) X) X) X) X) X) X) X) X) X) ∧
(i2 ≤ 0 →
 hk h2 a0 = 7 ∧ hk h2 a0 = 7 ∧ hk h2 (hr h2 a0 6) = 1 ∧ hk h2 (hr h2 (hr h2 a0 6) 5) = 2 ∧ call m_X1_part [pA (hr h2 (hr h2 a0 6) 5), pI i1, pI x2, pI 0] h2 (fun x12 h12 =>
 hk h12 (hr h2 a0 14) = 4 ∧ call m_X3_putNumber [pA (hr h2 a0 14), pI x12] h12 (fun _ h13 =>
 hk h13 a0 = 7 ∧ hk h13 (hr h13 a0 14) = 4 ∧ call m_X3_putByte [pA (hr h13 a0 14), pI 46] h13 (fun _ h14 =>
 hk h14 a0 = 7 ∧ hk h14 a0 = 7 ∧ hk h14 (hr h14 a0 5) = 6 ∧ hk h14 a0 = 7 ∧ hk h14 (hr h14 a0 6) = 1 ∧ hk h14 (hr h14 (hr h14 a0 6) 5) = 2 ∧ call m_X1_part [pA (hr h14 (hr h14 a0 6) 5), pI i1, pI x2, pI 1] h14 (fun x15 h15 =>
 hk h15 (hr h14 a0 14) = 4 ∧ call m_X3_putName [pA (hr h14 a0 14), pA (hr h14 (hr h14 a0 5) 0), pI x15] h15 (fun _ h16 =>
 hk h16 a0 = 7 ∧ hk h16 (hr h16 a0 14) = 4 ∧ call m_X3_putByte [pA (hr h16 a0 14), pI 61] h16 (fun _ h17 =>
 hk h17 a0 = 7 ∧ hk h17 a0 = 7 ∧ hk h17 (hr h17 a0 6) = 1 ∧ hk h17 (hr h17 (hr h17 a0 6) 5) = 2 ∧ call m_X1_part [pA (hr h17 (hr h17 a0 6) 5), pI i1, pI x2, pI 3] h17 (fun x18 h18 =>
 hk h18 (hr h17 a0 14) = 4 ∧ call m_X3_putNumber [pA (hr h17 a0 14), pI x18] h18 (fun _ h19 =>
 K 18 [some (pA a0), some (pI i1), some (pI (i2 + 1)), some (pI x2)] [] h19 c s) X) X) X) X) X) X) X) X)) X) ∧
(x1 ≤ i2 →
 hk h1 a0 = 7 ∧ hk h1 (hr h1 a0 14) = 4 ∧ Q (hi h1 (hr h1 a0 14) 1) h1)) X) : wpc k_X6_writeQueue [] call mc ms fr Q X [18] K 400 (pto 18 k_X6_writeQueue) [some (pA a0), some (pI i1), some (pI i2), z3] [] h c s :=
  H
set_option maxRecDepth 100000 in
theorem v_X6_writeStack_0 (a0 : Nat) (i1 : Int) (z2 : Option PV) (z3 : Option PV) (h : PH) (c s : Nat) (H : hk h a0 = 7 ∧ (c + 1 ≤ mc ∧ s + 6 ≤ ms) ∧ call m_X6_needHall [pA a0] h (fun _ h1 =>
 hk h1 a0 = 7 ∧ ((c + 1) + 1 ≤ mc ∧ (s + 6) + 6 ≤ ms) ∧ call m_X6_needProgram [pA a0, pI i1] h1 (fun _ h2 =>
 hk h2 a0 = 7 ∧ hk h2 (hr h2 a0 14) = 4 ∧ call m_X3_restart [pA (hr h2 a0 14)] h2 (fun _ h3 =>
 hk h3 a0 = 7 ∧ hk h3 (hr h3 a0 6) = 1 ∧ hk h3 (hr h3 (hr h3 a0 6) 6) = 2 ∧ call m_X1_sizeOf [pA (hr h3 (hr h3 a0 6) 6), pI i1] h3 (fun x4 h4 =>
 K 32 [some (pA a0), some (pI i1), some (pI (x4 - 1)), some (pI (x4 - 1))] [] h4 ((c + 1) + 1) ((s + 6) + 6)) X) X) X) X) : wpc k_X6_writeStack [] call mc ms fr Q X [32] K 400 (pto 0 k_X6_writeStack) [some (pA a0), some (pI i1), z2, z3] [] h c s :=
  H
set_option maxRecDepth 100000 in
theorem v_X6_writeStack_32 (a0 : Nat) (i1 : Int) (i2 : Int) (i3 : Int) (h : PH) (c s : Nat) (H : InR i3 ∧ (i3 < 0 →
 hk h a0 = 7 ∧ hk h (hr h a0 14) = 4 ∧ Q (hi h (hr h a0 14) 1) h) ∧
(0 ≤ i3 →
 InR i3 ∧ InR i2 ∧ (i3 < i2 →
 hk h a0 = 7 ∧ hk h (hr h a0 14) = 4 ∧ call m_X3_putByte [pA (hr h a0 14), pI 62] h (fun _ h1 =>
 hk h1 a0 = 7 ∧ hk h1 a0 = 7 ∧ hk h1 (hr h1 a0 5) = 6 ∧ hk h1 a0 = 7 ∧ hk h1 (hr h1 a0 6) = 1 ∧ hk h1 (hr h1 (hr h1 a0 6) 6) = 2 ∧ call m_X1_part [pA (hr h1 (hr h1 a0 6) 6), pI i1, pI i3, pI 1] h1 (fun x2 h2 =>
 hk h2 (hr h1 a0 14) = 4 ∧ call m_X3_putName [pA (hr h1 a0 14), pA (hr h1 (hr h1 a0 5) 0), pI x2] h2 (fun _ h3 =>
 hk h3 a0 = 7 ∧ hk h3 (hr h3 a0 14) = 4 ∧ call m_X3_putByte [pA (hr h3 a0 14), pI 58] h3 (fun _ h4 =>
 hk h4 a0 = 7 ∧ hk h4 a0 = 7 ∧ hk h4 (hr h4 a0 6) = 1 ∧ hk h4 (hr h4 (hr h4 a0 6) 6) = 2 ∧ call m_X1_part [pA (hr h4 (hr h4 a0 6) 6), pI i1, pI i3, pI 6] h4 (fun x5 h5 =>
 hk h5 (hr h4 a0 14) = 4 ∧ call m_X3_putNumber [pA (hr h4 a0 14), pI x5] h5 (fun _ h6 =>
 K 32 [some (pA a0), some (pI i1), some (pI i2), some (pI (i3 + (-1)))] [] h6 c s) X) X) X) X) X) X) ∧
(i2 ≤ i3 →
 hk h a0 = 7 ∧ hk h a0 = 7 ∧ hk h (hr h a0 5) = 6 ∧ hk h a0 = 7 ∧ hk h (hr h a0 6) = 1 ∧ hk h (hr h (hr h a0 6) 6) = 2 ∧ call m_X1_part [pA (hr h (hr h a0 6) 6), pI i1, pI i3, pI 1] h (fun x7 h7 =>
 hk h7 (hr h a0 14) = 4 ∧ call m_X3_putName [pA (hr h a0 14), pA (hr h (hr h a0 5) 0), pI x7] h7 (fun _ h8 =>
 hk h8 a0 = 7 ∧ hk h8 (hr h8 a0 14) = 4 ∧ call m_X3_putByte [pA (hr h8 a0 14), pI 58] h8 (fun _ h9 =>
 hk h9 a0 = 7 ∧ hk h9 a0 = 7 ∧ hk h9 (hr h9 a0 6) = 1 ∧ hk h9 (hr h9 (hr h9 a0 6) 6) = 2 ∧ call m_X1_part [pA (hr h9 (hr h9 a0 6) 6), pI i1, pI i3, pI 6] h9 (fun x10 h10 =>
 hk h10 (hr h9 a0 14) = 4 ∧ call m_X3_putNumber [pA (hr h9 a0 14), pI x10] h10 (fun _ h11 =>
 K 32 [some (pA a0), some (pI i1), some (pI i2), some (pI (i3 + (-1)))] [] h11 c s) X) X) X) X) X))) : wpc k_X6_writeStack [] call mc ms fr Q X [32] K 400 (pto 32 k_X6_writeStack) [some (pA a0), some (pI i1), some (pI i2), some (pI i3)] [] h c s :=
  H
set_option maxRecDepth 100000 in
theorem v_X6_writeEnds_0 (a0 : Nat) (z1 : Option PV) (h : PH) (c s : Nat) (H : hk h a0 = 7 ∧ (c + 1 ≤ mc ∧ s + 6 ≤ ms) ∧ call m_X6_needHall [pA a0] h (fun _ h1 =>
 hk h1 a0 = 7 ∧ hk h1 (hr h1 a0 14) = 4 ∧ call m_X3_restart [pA (hr h1 a0 14)] h1 (fun _ h2 =>
 K 13 [some (pA a0), some (pI 0)] [] h2 (c + 1) (s + 6)) X) X) : wpc k_X6_writeEnds [] call mc ms fr Q X [13] K 400 (pto 0 k_X6_writeEnds) [some (pA a0), z1] [] h c s :=
  H
set_option maxRecDepth 100000 in
theorem v_X6_writeEnds_13 (a0 : Nat) (i1 : Int) (h : PH) (c s : Nat) (H : hk h a0 = 7 ∧ hk h (hr h a0 6) = 1 ∧ call m_X0_told [pA (hr h a0 6)] h (fun x1 h1 =>
 InR i1 ∧ InR x1 ∧ (i1 < x1 →
 InR i1 ∧ (0 < i1 →
 hk h1 a0 = 7 ∧ hk h1 (hr h1 a0 14) = 4 ∧ call m_X3_putByte [pA (hr h1 a0 14), pI 32] h1 (fun _ h2 =>
 hk h2 a0 = 7 ∧ hk h2 a0 = 7 ∧ hk h2 (hr h2 a0 6) = 1 ∧ call m_X0_endPart [pA (hr h2 a0 6), pI i1, pI 0] h2 (fun x3 h3 =>
 hk h3 (hr h2 a0 14) = 4 ∧ call m_X3_putNumber [pA (hr h2 a0 14), pI x3] h3 (fun _ h4 =>
 hk h4 a0 = 7 ∧ hk h4 a0 = 7 ∧ hk h4 (hr h4 a0 6) = 1 ∧ call m_X0_endPart [pA (hr h4 a0 6), pI i1, pI 1] h4 (fun x5 h5 =>
 call m_X6_endLetter [pI x5] h5 (fun x6 h6 =>
 hk h6 (hr h4 a0 14) = 4 ∧ call m_X3_putByte [pA (hr h4 a0 14), pI x6] h6 (fun _ h7 =>
 K 13 [some (pA a0), some (pI (i1 + 1))] [] h7 c s) X) X) X) X) X) X) ∧
(i1 ≤ 0 →
 hk h1 a0 = 7 ∧ hk h1 a0 = 7 ∧ hk h1 (hr h1 a0 6) = 1 ∧ call m_X0_endPart [pA (hr h1 a0 6), pI i1, pI 0] h1 (fun x8 h8 =>
 hk h8 (hr h1 a0 14) = 4 ∧ call m_X3_putNumber [pA (hr h1 a0 14), pI x8] h8 (fun _ h9 =>
 hk h9 a0 = 7 ∧ hk h9 a0 = 7 ∧ hk h9 (hr h9 a0 6) = 1 ∧ call m_X0_endPart [pA (hr h9 a0 6), pI i1, pI 1] h9 (fun x10 h10 =>
 call m_X6_endLetter [pI x10] h10 (fun x11 h11 =>
 hk h11 (hr h9 a0 14) = 4 ∧ call m_X3_putByte [pA (hr h9 a0 14), pI x11] h11 (fun _ h12 =>
 K 13 [some (pA a0), some (pI (i1 + 1))] [] h12 c s) X) X) X) X) X)) ∧
(x1 ≤ i1 →
 hk h1 a0 = 7 ∧ hk h1 (hr h1 a0 14) = 4 ∧ Q (hi h1 (hr h1 a0 14) 1) h1)) X) : wpc k_X6_writeEnds [] call mc ms fr Q X [13] K 400 (pto 13 k_X6_writeEnds) [some (pA a0), some (pI i1)] [] h c s :=
  H
set_option maxRecDepth 100000 in
theorem v_X6_textByte_0 (a0 : Nat) (i1 : Int) (h : PH) (c s : Nat) (H : InR i1 ∧ (i1 < 0 →
 (c + 1 ≤ mc ∧ s + 6 ≤ ms) ∧ call m_X6_needIndex [pI 0] h (fun _ h1 =>
 hk h1 a0 = 7 ∧ hk h1 (hr h1 a0 14) = 4 ∧ call m_X3_byteAt [pA (hr h1 a0 14), pI i1] h1 (fun x2 h2 =>
 Q x2 h2) X) X) ∧
(0 ≤ i1 →
 hk h a0 = 7 ∧ hk h (hr h a0 14) = 4 ∧ InR i1 ∧ InR (hi h (hr h a0 14) 1) ∧ (i1 < (hi h (hr h a0 14) 1) →
 (c + 1 ≤ mc ∧ s + 6 ≤ ms) ∧ call m_X6_needIndex [pI 1] h (fun _ h3 =>
 hk h3 a0 = 7 ∧ hk h3 (hr h3 a0 14) = 4 ∧ call m_X3_byteAt [pA (hr h3 a0 14), pI i1] h3 (fun x4 h4 =>
 Q x4 h4) X) X) ∧
((hi h (hr h a0 14) 1) ≤ i1 →
 (c + 1 ≤ mc ∧ s + 6 ≤ ms) ∧ call m_X6_needIndex [pI 0] h (fun _ h5 =>
 hk h5 a0 = 7 ∧ hk h5 (hr h5 a0 14) = 4 ∧ call m_X3_byteAt [pA (hr h5 a0 14), pI i1] h5 (fun x6 h6 =>
 Q x6 h6) X) X))) : wpc k_X6_textByte [] call mc ms fr Q X [] K 400 (pto 0 k_X6_textByte) [some (pA a0), some (pI i1)] [] h c s :=
  H
end VCS
theorem S_X6_endLetter {d : Nat} {h : PH} {Q : Int → PH → Prop} {X : Nat → PH → Prop} {t : Int} (hS : STR h 10 [104, 102, 97, 113, 110, 100]) (ht : 0 ≤ t ∧ t < 6) (H : ∀ x : Int, x = lett t → Q x h) : RUN GQ (d + 7) m_X6_endLetter [pI t] h Q X := by
  have e6 : ((([104, 102, 97, 113, 110, 100] : List Int).length : Nat) : Int) = 6 := rfl
  have lt := lett_str ht
  have lr := lett_rng t
  rw [e_X6_endLetter]
  refine WP.of (RUN.mono GQ _) (cuts := []) (n := 400) (v_X6_endLetter_0 _ _ _ _ ?_)
  refine ⟨ir (by omega) (by omega), fun c1 => ?_, fun c1 => ?_⟩
  · refine ⟨(by omega), ?_⟩
    first
    | (exfalso; omega)
    | (refine H _ ?_
       first | exact lt | (exfalso; omega))
  · refine ⟨by omega, hS.1, ?_⟩
    rw [hS.2.1]
    refine ⟨ir (by omega) (by omega), ir (by omega) (by omega), fun c11 => ?_, fun c11 => ?_⟩
    · refine ⟨by omega, hS.1, ⟨by omega, by (try rw [hS.2.1]); omega⟩, ?_⟩
      rw [hS.2.2.1 _ (by omega) (by omega)]
      refine ⟨(by omega), ?_⟩
      first
      | (exfalso; omega)
      | (refine H _ ?_
         first | exact lt | (exfalso; omega))
    · refine ⟨(by omega), ?_⟩
      first
      | (exfalso; omega)
      | (refine H _ ?_
         first | exact lt | (exfalso; omega))
theorem L_X6_writeQueue_18 {d : Nat} {h0 : PH} {B A : Nat} {EP E D : Nat → Int → Int} {N : Int} {Q : Int → PH → Prop} {X : Nat → PH → Prop} {p : Int} {s : Int → Int} (T : FT h0 B A EP E D s) (dO : DO A B) (I : HI (D 0 3) (D 0 4) (D 0 2) N s) (V : PIv D) (R : HR E (D 0 2) (D 0 3) s) (U : PT EP D) (hN8 : N ≤ 99999999) (hp6 : 0 ≤ p ∧ p < 6) : ∀ (n : Nat) (i : Int) (z3 : Option PV) (l : List Int) (EO : Nat → Int → Int) (h : PH), (Ox 117 h0 h EO) → (TXO EO l) → (0 ≤ i ∧ i + n = s (115 + p)) → ((l.length : Int) ≤ 30 * i) → (i = 0 → l.length = 0) → (0 < i → 0 < l.length) → (∀ (x : Int) h' E', x = ((wqL D s p n i l).length : Nat) → Ox 117 h0 h' E' → TXO E' (wqL D s p n i l) → Q x h') → WP k_X6_writeQueue [] (RUN GQ (d + 7)) 24 1700 (d + 8) Q X 18 [some (pA 64), some (pI p), some (pI i), z3] [] h 2 12 := by
  intro n
  induction n with
  | zero =>
    intro i z3 l EO h O TX hi0 hl hl0 hl1 H
    obtain ⟨v2, v3, v4, vh⟩ := id V
    have I1 := I.e1
    have I2 := I.e2
    have q0 := I.qn hp6
    have q13 := I.hq.1
    refine WP.of (RUN.mono GQ _) (cuts := [18]) (n := 400) (v_X6_writeQueue_18 _ _ _ _ _ _ _ ?_)
    refine ⟨(T.so O.2.1 dO).k, ?_⟩
    try rw [(T.so O.2.1 dO).r6]
    refine ⟨Bx.k (Bx.sa T.M O.2.1 (by have := dO.1; omega)) 0 (by decide) rfl, ?_⟩
    try rw [show hr h A 5 = A + 6 from Bx.r (Bx.sa T.M O.2.1 (by have := dO.1; omega)) 0 5 6 (by decide)]
    refine ⟨Bx.k (Bx.sa T.M O.2.1 (by have := dO.1; omega)) 6 (by decide) rfl, ?_⟩
    refine S_X1_sizeOf_qR (Bx.sa T.M O.2.1 (by have := dO.1; omega)) R I (by omega) (fun x27 e27 => ?_)
    subst e27
    refine ⟨ir (by omega) (by omega), ir (by omega) (by omega), fun c30 => ?_, fun c30 => ?_⟩
    · exfalso; omega
    · refine ⟨(T.so O.2.1 dO).k, ?_⟩
      try rw [(T.so O.2.1 dO).r14]
      refine ⟨Bx.k O 0 (by decide) rfl, ?_⟩
      try rw [show hi h 117 1 = _ from Bx.f1 O 0 (by decide)]
      exact H _ _ _ TX.1 O TX
  | succ n ih =>
    intro i z3 l EO h O TX hi0 hl hl0 hl1 H
    obtain ⟨v2, v3, v4, vh⟩ := id V
    have I1 := I.e1
    have I2 := I.e2
    have q0 := I.qn hp6
    have q13 := I.hq.1
    refine WP.of (RUN.mono GQ _) (cuts := [18]) (n := 400) (v_X6_writeQueue_18 _ _ _ _ _ _ _ ?_)
    refine ⟨(T.so O.2.1 dO).k, ?_⟩
    try rw [(T.so O.2.1 dO).r6]
    refine ⟨Bx.k (Bx.sa T.M O.2.1 (by have := dO.1; omega)) 0 (by decide) rfl, ?_⟩
    try rw [show hr h A 5 = A + 6 from Bx.r (Bx.sa T.M O.2.1 (by have := dO.1; omega)) 0 5 6 (by decide)]
    refine ⟨Bx.k (Bx.sa T.M O.2.1 (by have := dO.1; omega)) 6 (by decide) rfl, ?_⟩
    refine S_X1_sizeOf_qR (Bx.sa T.M O.2.1 (by have := dO.1; omega)) R I (by omega) (fun x27 e27 => ?_)
    subst e27
    refine ⟨ir (by omega) (by omega), ir (by omega) (by omega), fun c30 => ?_, fun c30 => ?_⟩
    · refine ⟨(T.so O.2.1 dO).k, ?_⟩
      try rw [(T.so O.2.1 dO).r6]
      refine ⟨Bx.k (Bx.sa T.M O.2.1 (by have := dO.1; omega)) 0 (by decide) rfl, ?_⟩
      refine S_X0_placeInOrder (Bx.sa T.M O.2.1 (by have := dO.1; omega)) R I v3 (by omega) (by omega) (fun x39 e39 => ?_)
      subst e39
      have pl := plc_spec (s := s) (p := p) (x := i) (by omega)
      have qe := I.qe hp6 (i := plc s p i) (by omega)
      unfold QE at qe
      have y2 := num_len8 (v := qv s p (plc s p i) 0) (by omega)
      have y3 := num_len (qv s p (plc s p i) 3)
      have y4 : (chL (fun j => D 1 (7 * qv s p (plc s p i) 1 + j)) 7 0).length ≤ 7 := knd_len D (qv s p (plc s p i) 1)
      have y5 := wq1_len (D := D) (s := s) (p := p) (k := plc s p i) l
      refine ⟨ir (by omega) (by omega), fun c44 => ?_, fun c44 => ?_⟩
      · refine ⟨(T.so O.2.1 dO).k, ?_⟩
        try rw [(T.so O.2.1 dO).r14]
        refine ⟨Bx.k O 0 (by decide) rfl, ?_⟩
        refine S_X3_putByte O TX (by omega) (by first | omega | (simp only [List.length_append, List.length_cons, List.length_nil]; omega)) (fun x53 h53 E53 e53 M53 T53 => ?_)
        subst e53
        obtain ⟨L1, hL1⟩ : ∃ z, z = sepL l 32 := ⟨_, rfl⟩
        have TX56 : TXO _ L1 := T53.cast (by rw [hL1]; unfold sepL; first | (rw [if_pos (by omega)]; done) | (rw [if_neg (by omega)]; done))
        have y1 := sep_len l 32
        rw [← hL1] at y1
        refine ⟨(T.so M53.2.1 dO).k, ?_⟩
        try rw [(T.so M53.2.1 dO).r14]
        refine ⟨(T.so M53.2.1 dO).k, ?_⟩
        try rw [(T.so M53.2.1 dO).r6]
        refine ⟨Bx.k (Bx.sa T.M M53.2.1 (by have := dO.1; omega)) 0 (by decide) rfl, ?_⟩
        try rw [show hr h53 A 5 = A + 6 from Bx.r (Bx.sa T.M M53.2.1 (by have := dO.1; omega)) 0 5 6 (by decide)]
        refine ⟨Bx.k (Bx.sa T.M M53.2.1 (by have := dO.1; omega)) 6 (by decide) rfl, ?_⟩
        refine S_X1_part_qR (Bx.sa T.M M53.2.1 (by have := dO.1; omega)) R I (by omega) (by omega) (by omega) (fun x70 e70 => ?_)
        subst e70
        refine ⟨Bx.k M53 0 (by decide) rfl, ?_⟩
        refine S_X3_putNumber M53 TX56 (by omega) (by first | omega | (simp only [List.length_append, List.length_cons, List.length_nil]; omega)) (fun x73 h73 E73 e73 M73 T73 => ?_)
        subst e73
        refine ⟨(T.so M73.2.1 dO).k, ?_⟩
        try rw [(T.so M73.2.1 dO).r14]
        refine ⟨Bx.k M73 0 (by decide) rfl, ?_⟩
        refine S_X3_putByte M73 T73 (by omega) (by first | omega | (simp only [List.length_append, List.length_cons, List.length_nil]; omega)) (fun x82 h82 E82 e82 M82 T82 => ?_)
        subst e82
        refine ⟨(T.so M82.2.1 dO).k, ?_⟩
        try rw [(T.so M82.2.1 dO).r14]
        refine ⟨(T.so M82.2.1 dO).k, ?_⟩
        try rw [(T.so M82.2.1 dO).r5]
        refine ⟨Bx.k (Bx.sa T.L M82.2.1 (by have := dO.2; omega)) 0 (by decide) rfl, ?_⟩
        try rw [show hr h82 B 0 = B + 1 from Bx.r (Bx.sa T.L M82.2.1 (by have := dO.2; omega)) 0 0 1 (by decide)]
        refine ⟨(T.so M82.2.1 dO).k, ?_⟩
        try rw [(T.so M82.2.1 dO).r6]
        refine ⟨Bx.k (Bx.sa T.M M82.2.1 (by have := dO.1; omega)) 0 (by decide) rfl, ?_⟩
        try rw [show hr h82 A 5 = A + 6 from Bx.r (Bx.sa T.M M82.2.1 (by have := dO.1; omega)) 0 5 6 (by decide)]
        refine ⟨Bx.k (Bx.sa T.M M82.2.1 (by have := dO.1; omega)) 6 (by decide) rfl, ?_⟩
        refine S_X1_part_qR (Bx.sa T.M M82.2.1 (by have := dO.1; omega)) R I (by omega) (by omega) (by omega) (fun x106 e106 => ?_)
        subst e106
        refine ⟨Bx.k M82 0 (by decide) rfl, ?_⟩
        refine S_X3_putName M82 T82 T.L (by have := dO.2; omega) U.k v3 U.2.1 (by omega) (by first | omega | (simp only [List.length_append, List.length_cons, List.length_nil]; omega)) (fun x109 h109 E109 e109 M109 T109 => ?_)
        subst e109
        refine ⟨(T.so M109.2.1 dO).k, ?_⟩
        try rw [(T.so M109.2.1 dO).r14]
        refine ⟨Bx.k M109 0 (by decide) rfl, ?_⟩
        refine S_X3_putByte M109 T109 (by omega) (by first | omega | (simp only [List.length_append, List.length_cons, List.length_nil]; omega)) (fun x118 h118 E118 e118 M118 T118 => ?_)
        subst e118
        refine ⟨(T.so M118.2.1 dO).k, ?_⟩
        try rw [(T.so M118.2.1 dO).r14]
        refine ⟨(T.so M118.2.1 dO).k, ?_⟩
        try rw [(T.so M118.2.1 dO).r6]
        refine ⟨Bx.k (Bx.sa T.M M118.2.1 (by have := dO.1; omega)) 0 (by decide) rfl, ?_⟩
        try rw [show hr h118 A 5 = A + 6 from Bx.r (Bx.sa T.M M118.2.1 (by have := dO.1; omega)) 0 5 6 (by decide)]
        refine ⟨Bx.k (Bx.sa T.M M118.2.1 (by have := dO.1; omega)) 6 (by decide) rfl, ?_⟩
        refine S_X1_part_qR (Bx.sa T.M M118.2.1 (by have := dO.1; omega)) R I (by omega) (by omega) (by omega) (fun x135 e135 => ?_)
        subst e135
        refine ⟨Bx.k M118 0 (by decide) rfl, ?_⟩
        refine S_X3_putNumber M118 T118 (by omega) (by first | omega | (simp only [List.length_append, List.length_cons, List.length_nil]; omega)) (fun x138 h138 E138 e138 M138 T138 => ?_)
        subst e138
        refine ih _ _ _ _ _ M138 (T138.cast (by subst hL1; rfl)) (by omega) (by show ((wq1 D s p (plc s p i) l).length : Int) ≤ 30 * (i + 1); omega) (by omega) (by intro _; show 0 < (wq1 D s p (plc s p i) l).length; exact wq1_pos l) ?_
        refine fun x h' E' e O T => H x h' E' e O T
      · obtain ⟨L1, hL1⟩ : ∃ z, z = sepL l 32 := ⟨_, rfl⟩
        have TX56 : TXO _ L1 := TX.cast (by rw [hL1]; unfold sepL; first | (rw [if_pos (by omega)]; done) | (rw [if_neg (by omega)]; done))
        have y1 := sep_len l 32
        rw [← hL1] at y1
        refine ⟨(T.so O.2.1 dO).k, ?_⟩
        try rw [(T.so O.2.1 dO).r14]
        refine ⟨(T.so O.2.1 dO).k, ?_⟩
        try rw [(T.so O.2.1 dO).r6]
        refine ⟨Bx.k (Bx.sa T.M O.2.1 (by have := dO.1; omega)) 0 (by decide) rfl, ?_⟩
        try rw [show hr h A 5 = A + 6 from Bx.r (Bx.sa T.M O.2.1 (by have := dO.1; omega)) 0 5 6 (by decide)]
        refine ⟨Bx.k (Bx.sa T.M O.2.1 (by have := dO.1; omega)) 6 (by decide) rfl, ?_⟩
        refine S_X1_part_qR (Bx.sa T.M O.2.1 (by have := dO.1; omega)) R I (by omega) (by omega) (by omega) (fun x70 e70 => ?_)
        subst e70
        refine ⟨Bx.k O 0 (by decide) rfl, ?_⟩
        refine S_X3_putNumber O TX56 (by omega) (by first | omega | (simp only [List.length_append, List.length_cons, List.length_nil]; omega)) (fun x73 h73 E73 e73 M73 T73 => ?_)
        subst e73
        refine ⟨(T.so M73.2.1 dO).k, ?_⟩
        try rw [(T.so M73.2.1 dO).r14]
        refine ⟨Bx.k M73 0 (by decide) rfl, ?_⟩
        refine S_X3_putByte M73 T73 (by omega) (by first | omega | (simp only [List.length_append, List.length_cons, List.length_nil]; omega)) (fun x82 h82 E82 e82 M82 T82 => ?_)
        subst e82
        refine ⟨(T.so M82.2.1 dO).k, ?_⟩
        try rw [(T.so M82.2.1 dO).r14]
        refine ⟨(T.so M82.2.1 dO).k, ?_⟩
        try rw [(T.so M82.2.1 dO).r5]
        refine ⟨Bx.k (Bx.sa T.L M82.2.1 (by have := dO.2; omega)) 0 (by decide) rfl, ?_⟩
        try rw [show hr h82 B 0 = B + 1 from Bx.r (Bx.sa T.L M82.2.1 (by have := dO.2; omega)) 0 0 1 (by decide)]
        refine ⟨(T.so M82.2.1 dO).k, ?_⟩
        try rw [(T.so M82.2.1 dO).r6]
        refine ⟨Bx.k (Bx.sa T.M M82.2.1 (by have := dO.1; omega)) 0 (by decide) rfl, ?_⟩
        try rw [show hr h82 A 5 = A + 6 from Bx.r (Bx.sa T.M M82.2.1 (by have := dO.1; omega)) 0 5 6 (by decide)]
        refine ⟨Bx.k (Bx.sa T.M M82.2.1 (by have := dO.1; omega)) 6 (by decide) rfl, ?_⟩
        refine S_X1_part_qR (Bx.sa T.M M82.2.1 (by have := dO.1; omega)) R I (by omega) (by omega) (by omega) (fun x106 e106 => ?_)
        subst e106
        refine ⟨Bx.k M82 0 (by decide) rfl, ?_⟩
        refine S_X3_putName M82 T82 T.L (by have := dO.2; omega) U.k v3 U.2.1 (by omega) (by first | omega | (simp only [List.length_append, List.length_cons, List.length_nil]; omega)) (fun x109 h109 E109 e109 M109 T109 => ?_)
        subst e109
        refine ⟨(T.so M109.2.1 dO).k, ?_⟩
        try rw [(T.so M109.2.1 dO).r14]
        refine ⟨Bx.k M109 0 (by decide) rfl, ?_⟩
        refine S_X3_putByte M109 T109 (by omega) (by first | omega | (simp only [List.length_append, List.length_cons, List.length_nil]; omega)) (fun x118 h118 E118 e118 M118 T118 => ?_)
        subst e118
        refine ⟨(T.so M118.2.1 dO).k, ?_⟩
        try rw [(T.so M118.2.1 dO).r14]
        refine ⟨(T.so M118.2.1 dO).k, ?_⟩
        try rw [(T.so M118.2.1 dO).r6]
        refine ⟨Bx.k (Bx.sa T.M M118.2.1 (by have := dO.1; omega)) 0 (by decide) rfl, ?_⟩
        try rw [show hr h118 A 5 = A + 6 from Bx.r (Bx.sa T.M M118.2.1 (by have := dO.1; omega)) 0 5 6 (by decide)]
        refine ⟨Bx.k (Bx.sa T.M M118.2.1 (by have := dO.1; omega)) 6 (by decide) rfl, ?_⟩
        refine S_X1_part_qR (Bx.sa T.M M118.2.1 (by have := dO.1; omega)) R I (by omega) (by omega) (by omega) (fun x135 e135 => ?_)
        subst e135
        refine ⟨Bx.k M118 0 (by decide) rfl, ?_⟩
        refine S_X3_putNumber M118 T118 (by omega) (by first | omega | (simp only [List.length_append, List.length_cons, List.length_nil]; omega)) (fun x138 h138 E138 e138 M138 T138 => ?_)
        subst e138
        refine ih _ _ _ _ _ M138 (T138.cast (by subst hL1; rfl)) (by omega) (by show ((wq1 D s p (plc s p i) l).length : Int) ≤ 30 * (i + 1); omega) (by omega) (by intro _; show 0 < (wq1 D s p (plc s p i) l).length; exact wq1_pos l) ?_
        refine fun x h' E' e O T => H x h' E' e O T
    · exfalso; omega
theorem S_X6_writeQueue {d : Nat} {h0 h : PH} {B A : Nat} {EP E EO D : Nat → Int → Int} {s : Int → Int} {N : Int} {Q : Int → PH → Prop} {X : Nat → PH → Prop} {p : Int} (T : FT h0 B A EP E D s) (W : WD D s N) (dO : DO A B) (O : Ox 117 h0 h EO) (hvp : InR p) (hN8 : N ≤ 99999999) (H : ∀ (x : Int) h' E', ck (tL D) p 0 (D 0 4 - 1) 2 = 0 → x = ((wqL D s p (s (115 + p)).toNat 0 []).length : Nat) → Ox 117 h0 h' E' → TXO E' (wqL D s p (s (115 + p)).toNat 0 []) → Q x h') (HX : ∀ (e n' : Nat), (ck (tL D) p 0 (D 0 4 - 1) 2 = 1 ∧ e = 0 ∨ ck (tL D) p 0 (D 0 4 - 1) 2 = 2 ∧ e = 2) → hn h ≤ n' → X e (hup h n')) : RUN GQ (d + 8) m_X6_writeQueue [pA 64, pI p] h Q X := by
  obtain ⟨w1, w2, w3, wN, ws1, wI⟩ := id W
  have kL := tL_or D
  skip
  skip
  have k1 := ck_or (tL D) p 0 (D 0 4 - 1) 2
  rw [e_X6_writeQueue]
  refine WP.of (RUN.mono GQ _) (cuts := [18]) (n := 400) (v_X6_writeQueue_0 _ _ _ _ _ _ _ ?_)
  refine ⟨(T.so O.2.1 dO).k, ?_⟩
  refine ⟨⟨by omega, by omega⟩, ?_⟩
  refine S_X6_needHall (T.so O.2.1 dO) (fun c1 => ?_) (fun c1 n1 l1 => ?_)
  · obtain ⟨I, V, sw⟩ := wI (by omega)
    obtain ⟨R, U⟩ := T.u (by omega)
    obtain ⟨v2, v3, v4, vh⟩ := id V
    have I1 := I.e1
    have I2 := I.e2
    refine ⟨(T.so O.2.1 dO).k, ?_⟩
    refine ⟨⟨by omega, by omega⟩, ?_⟩
    refine S_X6_needProgram (T.so O.2.1 dO) U V (by omega) (fun c6 => ?_) (fun c6 n6 l6 => ?_)
    · have hp6 : 0 ≤ p ∧ p < 6 := by omega
      have q0 := I.qn hp6
      have q13 := I.hq.1
      have s0 := I.sn hp6
      refine ⟨(T.so O.2.1 dO).k, ?_⟩
      try rw [(T.so O.2.1 dO).r14]
      refine ⟨Bx.k O 0 (by decide) rfl, ?_⟩
      refine S_X3_restart O (fun x13 h13 e13 M13 => ?_)
      subst e13
      have TX13 := TXO.nil EO
      refine L_X6_writeQueue_18 T dO I V R U hN8 hp6 ((s (115 + p)).toNat) _ _ _ _ _ M13 TX13 (by omega) (by show ((0 : Nat) : Int) ≤ 30 * 0; omega) (by intro _; rfl) (by omega) ?_
      refine fun x h' E' e O T => H x h' E' (by omega) e O T
    · exact HX 2 _ (by omega) l6
  · exact HX 0 _ (by omega) l1
theorem L_X6_writeStack_32 {d : Nat} {h0 : PH} {B A : Nat} {EP E D : Nat → Int → Int} {N : Int} {Q : Int → PH → Prop} {X : Nat → PH → Prop} {p : Int} {s : Int → Int} (T : FT h0 B A EP E D s) (dO : DO A B) (I : HI (D 0 3) (D 0 4) (D 0 2) N s) (V : PIv D) (R : HR E (D 0 2) (D 0 3) s) (U : PT EP D) (hN8 : N ≤ 99999999) {tp : Int} (hp6 : 0 ≤ p ∧ p < 6) (htp : tp = s (511 + p) - 1) : ∀ (n : Nat) (k : Int) (l : List Int) (EO : Nat → Int → Int) (h : PH), (Ox 117 h0 h EO) → (TXO EO l) → (k = n - 1 ∧ n ≤ s (511 + p)) → ((l.length : Int) ≤ 20 * (4 - n)) → (k = tp → l.length = 0) → (k < tp → 0 < l.length) → (∀ (x : Int) h' E', x = ((wsL D s p n l).length : Nat) → Ox 117 h0 h' E' → TXO E' (wsL D s p n l) → Q x h') → WP k_X6_writeStack [] (RUN GQ (d + 7)) 24 1700 (d + 8) Q X 32 [some (pA 64), some (pI p), some (pI tp), some (pI k)] [] h 2 12 := by
  intro n
  induction n with
  | zero =>
    intro k l EO h O TX hk0 hl hl0 hl1 H
    obtain ⟨v2, v3, v4, vh⟩ := id V
    have I1 := I.e1
    have I2 := I.e2
    have q0 := I.sn hp6
    refine WP.of (RUN.mono GQ _) (cuts := [32]) (n := 400) (v_X6_writeStack_32 _ _ _ _ _ _ _ ?_)
    refine ⟨ir (by omega) (by omega), fun c33 => ?_, fun c33 => ?_⟩
    · refine ⟨(T.so O.2.1 dO).k, ?_⟩
      try rw [(T.so O.2.1 dO).r14]
      refine ⟨Bx.k O 0 (by decide) rfl, ?_⟩
      try rw [show hi h 117 1 = _ from Bx.f1 O 0 (by decide)]
      exact H _ _ _ TX.1 O TX
    · exfalso; omega
  | succ n ih =>
    intro k l EO h O TX hk0 hl hl0 hl1 H
    obtain ⟨v2, v3, v4, vh⟩ := id V
    have I1 := I.e1
    have I2 := I.e2
    have q0 := I.sn hp6
    have se := I.se hp6 (i := k) (by omega)
    unfold SE at se
    have y3 := num_len (sv s p k 3)
    have y4 : (chL (fun j => D 1 (7 * sv s p k 1 + j)) 7 0).length ≤ 7 := knd_len D (sv s p k 1)
    have y5 := ws1_len (D := D) (s := s) (p := p) (k := k) l
    refine WP.of (RUN.mono GQ _) (cuts := [32]) (n := 400) (v_X6_writeStack_32 _ _ _ _ _ _ _ ?_)
    refine ⟨ir (by omega) (by omega), fun c33 => ?_, fun c33 => ?_⟩
    · exfalso; omega
    · refine ⟨ir (by omega) (by omega), ir (by omega) (by omega), fun c38 => ?_, fun c38 => ?_⟩
      · refine ⟨(T.so O.2.1 dO).k, ?_⟩
        try rw [(T.so O.2.1 dO).r14]
        refine ⟨Bx.k O 0 (by decide) rfl, ?_⟩
        refine S_X3_putByte O TX (by omega) (by first | omega | (simp only [List.length_append, List.length_cons, List.length_nil]; omega)) (fun x47 h47 E47 e47 M47 T47 => ?_)
        subst e47
        obtain ⟨L1, hL1⟩ : ∃ z, z = sepL l 62 := ⟨_, rfl⟩
        have TX50 : TXO _ L1 := T47.cast (by rw [hL1]; unfold sepL; first | (rw [if_pos (by omega)]; done) | (rw [if_neg (by omega)]; done))
        have y1 := sep_len l 62
        rw [← hL1] at y1
        refine ⟨(T.so M47.2.1 dO).k, ?_⟩
        try rw [(T.so M47.2.1 dO).r14]
        refine ⟨(T.so M47.2.1 dO).k, ?_⟩
        try rw [(T.so M47.2.1 dO).r5]
        refine ⟨Bx.k (Bx.sa T.L M47.2.1 (by have := dO.2; omega)) 0 (by decide) rfl, ?_⟩
        try rw [show hr h47 B 0 = B + 1 from Bx.r (Bx.sa T.L M47.2.1 (by have := dO.2; omega)) 0 0 1 (by decide)]
        refine ⟨(T.so M47.2.1 dO).k, ?_⟩
        try rw [(T.so M47.2.1 dO).r6]
        refine ⟨Bx.k (Bx.sa T.M M47.2.1 (by have := dO.1; omega)) 0 (by decide) rfl, ?_⟩
        try rw [show hr h47 A 6 = A + 9 from Bx.r (Bx.sa T.M M47.2.1 (by have := dO.1; omega)) 0 6 9 (by decide)]
        refine ⟨Bx.k (Bx.sa T.M M47.2.1 (by have := dO.1; omega)) 9 (by decide) rfl, ?_⟩
        refine S_X1_part_sR (Bx.sa T.M M47.2.1 (by have := dO.1; omega)) R I (by omega) (by omega) (by omega) (by omega) (fun x71 e71 => ?_)
        subst e71
        rw [svc_1]
        refine ⟨Bx.k M47 0 (by decide) rfl, ?_⟩
        refine S_X3_putName M47 TX50 T.L (by have := dO.2; omega) U.k v3 U.2.1 (by omega) (by first | omega | (simp only [List.length_append, List.length_cons, List.length_nil]; omega)) (fun x74 h74 E74 e74 M74 T74 => ?_)
        subst e74
        refine ⟨(T.so M74.2.1 dO).k, ?_⟩
        try rw [(T.so M74.2.1 dO).r14]
        refine ⟨Bx.k M74 0 (by decide) rfl, ?_⟩
        refine S_X3_putByte M74 T74 (by omega) (by first | omega | (simp only [List.length_append, List.length_cons, List.length_nil]; omega)) (fun x83 h83 E83 e83 M83 T83 => ?_)
        subst e83
        refine ⟨(T.so M83.2.1 dO).k, ?_⟩
        try rw [(T.so M83.2.1 dO).r14]
        refine ⟨(T.so M83.2.1 dO).k, ?_⟩
        try rw [(T.so M83.2.1 dO).r6]
        refine ⟨Bx.k (Bx.sa T.M M83.2.1 (by have := dO.1; omega)) 0 (by decide) rfl, ?_⟩
        try rw [show hr h83 A 6 = A + 9 from Bx.r (Bx.sa T.M M83.2.1 (by have := dO.1; omega)) 0 6 9 (by decide)]
        refine ⟨Bx.k (Bx.sa T.M M83.2.1 (by have := dO.1; omega)) 9 (by decide) rfl, ?_⟩
        refine S_X1_part_sR (Bx.sa T.M M83.2.1 (by have := dO.1; omega)) R I (by omega) (by omega) (by omega) (by omega) (fun x101 e101 => ?_)
        subst e101
        rw [svc_6]
        refine ⟨Bx.k M83 0 (by decide) rfl, ?_⟩
        refine S_X3_putNumber M83 T83 (by omega) (by first | omega | (simp only [List.length_append, List.length_cons, List.length_nil]; omega)) (fun x104 h104 E104 e104 M104 T104 => ?_)
        subst e104
        refine ih _ _ _ _ M104 (T104.cast (by subst hL1; rfl)) (by omega) (by show ((ws1 D s p k l).length : Int) ≤ _; omega) (by omega) (by intro _; show 0 < (ws1 D s p k l).length; exact ws1_pos l) ?_
        have ek : k = n := by omega
        subst ek
        exact H
      · obtain ⟨L1, hL1⟩ : ∃ z, z = sepL l 62 := ⟨_, rfl⟩
        have TX50 : TXO _ L1 := TX.cast (by rw [hL1]; unfold sepL; first | (rw [if_pos (by omega)]; done) | (rw [if_neg (by omega)]; done))
        have y1 := sep_len l 62
        rw [← hL1] at y1
        refine ⟨(T.so O.2.1 dO).k, ?_⟩
        try rw [(T.so O.2.1 dO).r14]
        refine ⟨(T.so O.2.1 dO).k, ?_⟩
        try rw [(T.so O.2.1 dO).r5]
        refine ⟨Bx.k (Bx.sa T.L O.2.1 (by have := dO.2; omega)) 0 (by decide) rfl, ?_⟩
        try rw [show hr h B 0 = B + 1 from Bx.r (Bx.sa T.L O.2.1 (by have := dO.2; omega)) 0 0 1 (by decide)]
        refine ⟨(T.so O.2.1 dO).k, ?_⟩
        try rw [(T.so O.2.1 dO).r6]
        refine ⟨Bx.k (Bx.sa T.M O.2.1 (by have := dO.1; omega)) 0 (by decide) rfl, ?_⟩
        try rw [show hr h A 6 = A + 9 from Bx.r (Bx.sa T.M O.2.1 (by have := dO.1; omega)) 0 6 9 (by decide)]
        refine ⟨Bx.k (Bx.sa T.M O.2.1 (by have := dO.1; omega)) 9 (by decide) rfl, ?_⟩
        refine S_X1_part_sR (Bx.sa T.M O.2.1 (by have := dO.1; omega)) R I (by omega) (by omega) (by omega) (by omega) (fun x71 e71 => ?_)
        subst e71
        rw [svc_1]
        refine ⟨Bx.k O 0 (by decide) rfl, ?_⟩
        refine S_X3_putName O TX50 T.L (by have := dO.2; omega) U.k v3 U.2.1 (by omega) (by first | omega | (simp only [List.length_append, List.length_cons, List.length_nil]; omega)) (fun x74 h74 E74 e74 M74 T74 => ?_)
        subst e74
        refine ⟨(T.so M74.2.1 dO).k, ?_⟩
        try rw [(T.so M74.2.1 dO).r14]
        refine ⟨Bx.k M74 0 (by decide) rfl, ?_⟩
        refine S_X3_putByte M74 T74 (by omega) (by first | omega | (simp only [List.length_append, List.length_cons, List.length_nil]; omega)) (fun x83 h83 E83 e83 M83 T83 => ?_)
        subst e83
        refine ⟨(T.so M83.2.1 dO).k, ?_⟩
        try rw [(T.so M83.2.1 dO).r14]
        refine ⟨(T.so M83.2.1 dO).k, ?_⟩
        try rw [(T.so M83.2.1 dO).r6]
        refine ⟨Bx.k (Bx.sa T.M M83.2.1 (by have := dO.1; omega)) 0 (by decide) rfl, ?_⟩
        try rw [show hr h83 A 6 = A + 9 from Bx.r (Bx.sa T.M M83.2.1 (by have := dO.1; omega)) 0 6 9 (by decide)]
        refine ⟨Bx.k (Bx.sa T.M M83.2.1 (by have := dO.1; omega)) 9 (by decide) rfl, ?_⟩
        refine S_X1_part_sR (Bx.sa T.M M83.2.1 (by have := dO.1; omega)) R I (by omega) (by omega) (by omega) (by omega) (fun x101 e101 => ?_)
        subst e101
        rw [svc_6]
        refine ⟨Bx.k M83 0 (by decide) rfl, ?_⟩
        refine S_X3_putNumber M83 T83 (by omega) (by first | omega | (simp only [List.length_append, List.length_cons, List.length_nil]; omega)) (fun x104 h104 E104 e104 M104 T104 => ?_)
        subst e104
        refine ih _ _ _ _ M104 (T104.cast (by subst hL1; rfl)) (by omega) (by show ((ws1 D s p k l).length : Int) ≤ _; omega) (by omega) (by intro _; show 0 < (ws1 D s p k l).length; exact ws1_pos l) ?_
        have ek : k = n := by omega
        subst ek
        exact H
theorem S_X6_writeStack {d : Nat} {h0 h : PH} {B A : Nat} {EP E EO D : Nat → Int → Int} {s : Int → Int} {N : Int} {Q : Int → PH → Prop} {X : Nat → PH → Prop} {p : Int} (T : FT h0 B A EP E D s) (W : WD D s N) (dO : DO A B) (O : Ox 117 h0 h EO) (hvp : InR p) (hN8 : N ≤ 99999999) (H : ∀ (x : Int) h' E', ck (tL D) p 0 (D 0 4 - 1) 2 = 0 → x = ((wsL D s p (s (511 + p)).toNat []).length : Nat) → Ox 117 h0 h' E' → TXO E' (wsL D s p (s (511 + p)).toNat []) → Q x h') (HX : ∀ (e n' : Nat), (ck (tL D) p 0 (D 0 4 - 1) 2 = 1 ∧ e = 0 ∨ ck (tL D) p 0 (D 0 4 - 1) 2 = 2 ∧ e = 2) → hn h ≤ n' → X e (hup h n')) : RUN GQ (d + 8) m_X6_writeStack [pA 64, pI p] h Q X := by
  obtain ⟨w1, w2, w3, wN, ws1, wI⟩ := id W
  have kL := tL_or D
  skip
  skip
  have k1 := ck_or (tL D) p 0 (D 0 4 - 1) 2
  rw [e_X6_writeStack]
  refine WP.of (RUN.mono GQ _) (cuts := [32]) (n := 400) (v_X6_writeStack_0 _ _ _ _ _ _ _ ?_)
  refine ⟨(T.so O.2.1 dO).k, ?_⟩
  refine ⟨⟨by omega, by omega⟩, ?_⟩
  refine S_X6_needHall (T.so O.2.1 dO) (fun c1 => ?_) (fun c1 n1 l1 => ?_)
  · obtain ⟨I, V, sw⟩ := wI (by omega)
    obtain ⟨R, U⟩ := T.u (by omega)
    obtain ⟨v2, v3, v4, vh⟩ := id V
    have I1 := I.e1
    have I2 := I.e2
    refine ⟨(T.so O.2.1 dO).k, ?_⟩
    refine ⟨⟨by omega, by omega⟩, ?_⟩
    refine S_X6_needProgram (T.so O.2.1 dO) U V (by omega) (fun c6 => ?_) (fun c6 n6 l6 => ?_)
    · have hp6 : 0 ≤ p ∧ p < 6 := by omega
      have q0 := I.qn hp6
      have q13 := I.hq.1
      have s0 := I.sn hp6
      refine ⟨(T.so O.2.1 dO).k, ?_⟩
      try rw [(T.so O.2.1 dO).r14]
      refine ⟨Bx.k O 0 (by decide) rfl, ?_⟩
      refine S_X3_restart O (fun x13 h13 e13 M13 => ?_)
      subst e13
      have TX13 := TXO.nil EO
      refine ⟨(T.so M13.2.1 dO).k, ?_⟩
      try rw [(T.so M13.2.1 dO).r6]
      refine ⟨Bx.k (Bx.sa T.M M13.2.1 (by have := dO.1; omega)) 0 (by decide) rfl, ?_⟩
      try rw [show hr h13 A 6 = A + 9 from Bx.r (Bx.sa T.M M13.2.1 (by have := dO.1; omega)) 0 6 9 (by decide)]
      refine ⟨Bx.k (Bx.sa T.M M13.2.1 (by have := dO.1; omega)) 9 (by decide) rfl, ?_⟩
      refine S_X1_sizeOf_sR (Bx.sa T.M M13.2.1 (by have := dO.1; omega)) R I (by omega) (fun x24 e24 => ?_)
      subst e24
      refine L_X6_writeStack_32 T dO I V R U hN8 hp6 rfl ((s (511 + p)).toNat) _ _ _ _ M13 TX13 (by omega) (by show ((0 : Nat) : Int) ≤ _; omega) (by intro _; rfl) (by omega) ?_
      refine fun x h' E' e O T => H x h' E' (by omega) e O T
    · exact HX 2 _ (by omega) l6
  · exact HX 0 _ (by omega) l1
theorem L_X6_writeEnds_13 {d : Nat} {h0 : PH} {B A : Nat} {EP E D : Nat → Int → Int} {N : Int} {Q : Int → PH → Prop} {X : Nat → PH → Prop} {s : Int → Int} (T : FT h0 B A EP E D s) (dO : DO A B) (I : HI (D 0 3) (D 0 4) (D 0 2) N s) (V : PIv D) (R : HR E (D 0 2) (D 0 3) s) (U : PT EP D) (hN8 : N ≤ 99999999) (GL : STR h0 10 [104, 102, 97, 113, 110, 100]) : ∀ (n : Nat) (i : Int) (l : List Int) (EO : Nat → Int → Int) (h : PH), (Ox 117 h0 h EO) → (TXO EO l) → (0 ≤ i ∧ i + n = tld s) → ((l.length : Int) ≤ 10 * i) → (i = 0 → l.length = 0) → (0 < i → 0 < l.length) → (∀ (x : Int) h' E', x = ((weL s n i l).length : Nat) → Ox 117 h0 h' E' → TXO E' (weL s n i l) → Q x h') → WP k_X6_writeEnds [] (RUN GQ (d + 7)) 24 1700 (d + 8) Q X 13 [some (pA 64), some (pI i)] [] h 1 6 := by
  intro n
  induction n with
  | zero =>
    intro i l EO h O TX hi0 hl hl0 hl1 H
    obtain ⟨v2, v3, v4, vh⟩ := id V
    have I1 := I.e1
    have I2 := I.e2
    have tl : 0 ≤ tld s ∧ tld s ≤ s 2 ∧ tld s ≤ 40 := by unfold tld; split <;> omega
    refine WP.of (RUN.mono GQ _) (cuts := [13]) (n := 400) (v_X6_writeEnds_13 _ _ _ _ _ ?_)
    refine ⟨(T.so O.2.1 dO).k, ?_⟩
    try rw [(T.so O.2.1 dO).r6]
    refine ⟨Bx.k (Bx.sa T.M O.2.1 (by have := dO.1; omega)) 0 (by decide) rfl, ?_⟩
    refine S_X0_told (Bx.sa T.M O.2.1 (by have := dO.1; omega)) R I (by omega) (fun x18 e18 => ?_)
    subst e18
    refine ⟨ir (by omega) (by omega), ir (by omega) (by omega), fun c21 => ?_, fun c21 => ?_⟩
    · exfalso; omega
    · refine ⟨(T.so O.2.1 dO).k, ?_⟩
      try rw [(T.so O.2.1 dO).r14]
      refine ⟨Bx.k O 0 (by decide) rfl, ?_⟩
      try rw [show hi h 117 1 = _ from Bx.f1 O 0 (by decide)]
      exact H _ _ _ TX.1 O TX
  | succ n ih =>
    intro i l EO h O TX hi0 hl hl0 hl1 H
    obtain ⟨v2, v3, v4, vh⟩ := id V
    have I1 := I.e1
    have I2 := I.e2
    have tl : 0 ≤ tld s ∧ tld s ≤ s 2 ∧ tld s ≤ 40 := by unfold tld; split <;> omega
    have tm := tm40 (x := s 2 - 1 - i) (by omega)
    have tm2 : Int.tmod (s 2 - 1 - i) 40 ≤ s 2 - 1 - i := by rw [Int.tmod_eq_emod_of_nonneg (by omega)]; omega
    have rr := I.hr (Int.tmod (s 2 - 1 - i) 40) (by omega) (by omega) (by omega)
    have y2 := num_len8 (v := rv s (Int.tmod (s 2 - 1 - i) 40) 0) (by omega)
    have y5 := we1_len8 (s := s) (i := i) l (by omega)
    have ly := lett_rng (rv s (Int.tmod (s 2 - 1 - i) 40) 1)
    refine WP.of (RUN.mono GQ _) (cuts := [13]) (n := 400) (v_X6_writeEnds_13 _ _ _ _ _ ?_)
    refine ⟨(T.so O.2.1 dO).k, ?_⟩
    try rw [(T.so O.2.1 dO).r6]
    refine ⟨Bx.k (Bx.sa T.M O.2.1 (by have := dO.1; omega)) 0 (by decide) rfl, ?_⟩
    refine S_X0_told (Bx.sa T.M O.2.1 (by have := dO.1; omega)) R I (by omega) (fun x18 e18 => ?_)
    subst e18
    refine ⟨ir (by omega) (by omega), ir (by omega) (by omega), fun c21 => ?_, fun c21 => ?_⟩
    · refine ⟨ir (by omega) (by omega), fun c25 => ?_, fun c25 => ?_⟩
      · refine ⟨(T.so O.2.1 dO).k, ?_⟩
        try rw [(T.so O.2.1 dO).r14]
        refine ⟨Bx.k O 0 (by decide) rfl, ?_⟩
        refine S_X3_putByte O TX (by omega) (by first | omega | (simp only [List.length_append, List.length_cons, List.length_nil]; omega)) (fun x34 h34 E34 e34 M34 T34 => ?_)
        subst e34
        obtain ⟨L1, hL1⟩ : ∃ z, z = sepL l 32 := ⟨_, rfl⟩
        have TX37 : TXO _ L1 := T34.cast (by rw [hL1]; unfold sepL; first | (rw [if_pos (by omega)]; done) | (rw [if_neg (by omega)]; done))
        have y1 := sep_len l 32
        rw [← hL1] at y1
        refine ⟨(T.so M34.2.1 dO).k, ?_⟩
        try rw [(T.so M34.2.1 dO).r14]
        refine ⟨(T.so M34.2.1 dO).k, ?_⟩
        try rw [(T.so M34.2.1 dO).r6]
        refine ⟨Bx.k (Bx.sa T.M M34.2.1 (by have := dO.1; omega)) 0 (by decide) rfl, ?_⟩
        refine S_X0_endPart (Bx.sa T.M M34.2.1 (by have := dO.1; omega)) R I (by omega) (by omega) (by omega) (fun x47 e47 => ?_)
        subst e47
        refine ⟨Bx.k M34 0 (by decide) rfl, ?_⟩
        refine S_X3_putNumber M34 TX37 (by omega) (by first | omega | (simp only [List.length_append, List.length_cons, List.length_nil]; omega)) (fun x50 h50 E50 e50 M50 T50 => ?_)
        subst e50
        refine ⟨(T.so M50.2.1 dO).k, ?_⟩
        try rw [(T.so M50.2.1 dO).r14]
        refine ⟨(T.so M50.2.1 dO).k, ?_⟩
        try rw [(T.so M50.2.1 dO).r6]
        refine ⟨Bx.k (Bx.sa T.M M50.2.1 (by have := dO.1; omega)) 0 (by decide) rfl, ?_⟩
        refine S_X0_endPart (Bx.sa T.M M50.2.1 (by have := dO.1; omega)) R I (by omega) (by omega) (by omega) (fun x63 e63 => ?_)
        subst e63
        refine S_X6_endLetter (GL.of M50.2.1 (by decide)) (by omega) (fun x66 e66 => ?_)
        subst e66
        refine ⟨Bx.k M50 0 (by decide) rfl, ?_⟩
        refine S_X3_putByte M50 T50 (by omega) (by first | omega | (simp only [List.length_append, List.length_cons, List.length_nil]; omega)) (fun x69 h69 E69 e69 M69 T69 => ?_)
        subst e69
        refine ih _ _ _ _ M69 (T69.cast (by subst hL1; rfl)) (by omega) (by show ((we1 s i l).length : Int) ≤ 10 * (i + 1); omega) (by omega) (by intro _; show 0 < (we1 s i l).length; exact we1_pos l) ?_
        exact H
      · obtain ⟨L1, hL1⟩ : ∃ z, z = sepL l 32 := ⟨_, rfl⟩
        have TX37 : TXO _ L1 := TX.cast (by rw [hL1]; unfold sepL; first | (rw [if_pos (by omega)]; done) | (rw [if_neg (by omega)]; done))
        have y1 := sep_len l 32
        rw [← hL1] at y1
        refine ⟨(T.so O.2.1 dO).k, ?_⟩
        try rw [(T.so O.2.1 dO).r14]
        refine ⟨(T.so O.2.1 dO).k, ?_⟩
        try rw [(T.so O.2.1 dO).r6]
        refine ⟨Bx.k (Bx.sa T.M O.2.1 (by have := dO.1; omega)) 0 (by decide) rfl, ?_⟩
        refine S_X0_endPart (Bx.sa T.M O.2.1 (by have := dO.1; omega)) R I (by omega) (by omega) (by omega) (fun x47 e47 => ?_)
        subst e47
        refine ⟨Bx.k O 0 (by decide) rfl, ?_⟩
        refine S_X3_putNumber O TX37 (by omega) (by first | omega | (simp only [List.length_append, List.length_cons, List.length_nil]; omega)) (fun x50 h50 E50 e50 M50 T50 => ?_)
        subst e50
        refine ⟨(T.so M50.2.1 dO).k, ?_⟩
        try rw [(T.so M50.2.1 dO).r14]
        refine ⟨(T.so M50.2.1 dO).k, ?_⟩
        try rw [(T.so M50.2.1 dO).r6]
        refine ⟨Bx.k (Bx.sa T.M M50.2.1 (by have := dO.1; omega)) 0 (by decide) rfl, ?_⟩
        refine S_X0_endPart (Bx.sa T.M M50.2.1 (by have := dO.1; omega)) R I (by omega) (by omega) (by omega) (fun x63 e63 => ?_)
        subst e63
        refine S_X6_endLetter (GL.of M50.2.1 (by decide)) (by omega) (fun x66 e66 => ?_)
        subst e66
        refine ⟨Bx.k M50 0 (by decide) rfl, ?_⟩
        refine S_X3_putByte M50 T50 (by omega) (by first | omega | (simp only [List.length_append, List.length_cons, List.length_nil]; omega)) (fun x69 h69 E69 e69 M69 T69 => ?_)
        subst e69
        refine ih _ _ _ _ M69 (T69.cast (by subst hL1; rfl)) (by omega) (by show ((we1 s i l).length : Int) ≤ 10 * (i + 1); omega) (by omega) (by intro _; show 0 < (we1 s i l).length; exact we1_pos l) ?_
        exact H
    · exfalso; omega
theorem S_X6_writeEnds {d : Nat} {h0 h : PH} {B A : Nat} {EP E EO D : Nat → Int → Int} {s : Int → Int} {N : Int} {Q : Int → PH → Prop} {X : Nat → PH → Prop} (T : FT h0 B A EP E D s) (W : WD D s N) (dO : DO A B) (O : Ox 117 h0 h EO) (GL : STR h0 10 [104, 102, 97, 113, 110, 100]) (hN8 : N ≤ 99999999) (H : ∀ (x : Int) h' E', tL D = 0 → x = ((weL s (tld s).toNat 0 []).length : Nat) → Ox 117 h0 h' E' → TXO E' (weL s (tld s).toNat 0 []) → Q x h') (HX : ∀ (e n' : Nat), (tL D = 1 ∧ e = 0) → hn h ≤ n' → X e (hup h n')) : RUN GQ (d + 8) m_X6_writeEnds [pA 64] h Q X := by
  obtain ⟨w1, w2, w3, wN, ws1, wI⟩ := id W
  have kL := tL_or D
  skip
  skip
  rw [e_X6_writeEnds]
  refine WP.of (RUN.mono GQ _) (cuts := [13]) (n := 400) (v_X6_writeEnds_0 _ _ _ _ _ ?_)
  refine ⟨(T.so O.2.1 dO).k, ?_⟩
  refine ⟨⟨by omega, by omega⟩, ?_⟩
  refine S_X6_needHall (T.so O.2.1 dO) (fun c1 => ?_) (fun c1 n1 l1 => ?_)
  · obtain ⟨I, V, sw⟩ := wI (by omega)
    obtain ⟨R, U⟩ := T.u (by omega)
    obtain ⟨v2, v3, v4, vh⟩ := id V
    have I1 := I.e1
    have I2 := I.e2
    have tl : 0 ≤ tld s ∧ tld s ≤ s 2 ∧ tld s ≤ 40 := by unfold tld; split <;> omega
    refine ⟨(T.so O.2.1 dO).k, ?_⟩
    try rw [(T.so O.2.1 dO).r14]
    refine ⟨Bx.k O 0 (by decide) rfl, ?_⟩
    refine S_X3_restart O (fun x8 h8 e8 M8 => ?_)
    subst e8
    have TX8 := TXO.nil EO
    refine L_X6_writeEnds_13 T dO I V R U hN8 GL ((tld s).toNat) _ _ _ _ M8 TX8 (by omega) (by show ((0 : Nat) : Int) ≤ 10 * 0; omega) (by intro _; rfl) (by omega) ?_
    refine fun x h' E' e O T => H x h' E' (by omega) e O T
  · exact HX 0 _ (by omega) l1
theorem S_X6_textByte {d : Nat} {h0 h : PH} {B A : Nat} {EP E EO D : Nat → Int → Int} {s : Int → Int} {Q : Int → PH → Prop} {X : Nat → PH → Prop} {i : Int} (T : FT h0 B A EP E D s) (dO : DO A B) (O : Ox 117 h0 h EO) (T46 : EO 0 1 = D 0 46 ∧ ∀ e : Int, 0 ≤ e → e < D 0 46 → EO 1 e = D 19 e) (h46 : 0 ≤ D 0 46 ∧ D 0 46 ≤ 400) (hvi : InR i) (H : ∀ x : Int, ck 0 i 0 (D 0 46 - 1) 1 = 0 → x = D 19 i → Q x h) (HX : ∀ (e n' : Nat), (ck 0 i 0 (D 0 46 - 1) 1 = 1 ∧ e = 2) → hn h ≤ n' → X e (hup h n')) : RUN GQ (d + 7) m_X6_textByte [pA 64, pI i] h Q X := by
  have k1 := ck_or 0 i 0 (D 0 46 - 1) 1
  rw [e_X6_textByte]
  refine WP.of (RUN.mono GQ _) (cuts := []) (n := 400) (v_X6_textByte_0 _ _ _ _ _ ?_)
  refine ⟨ir (by omega) (by omega), fun c1 => ?_, fun c1 => ?_⟩
  · refine ⟨⟨by omega, by omega⟩, ?_⟩
    refine S_X6_needIndex (by omega) (fun c20 => ?_) (fun c20 n20 l20 => ?_)
    · exact absurd rfl c20
    · exact HX 2 _ (by omega) l20
  · refine ⟨(T.so O.2.1 dO).k, ?_⟩
    try rw [(T.so O.2.1 dO).r14]
    refine ⟨Bx.k O 0 (by decide) rfl, ?_⟩
    try rw [show hi h 117 1 = _ from Bx.f1 O 0 (by decide)]
    rw [T46.1]
    refine ⟨ir (by omega) (by omega), ir (by omega) (by omega), fun c12 => ?_, fun c12 => ?_⟩
    · refine ⟨⟨by omega, by omega⟩, ?_⟩
      refine S_X6_needIndex (by omega) (fun c20 => ?_) (fun c20 n20 l20 => ?_)
      · refine ⟨(T.so O.2.1 dO).k, ?_⟩
        try rw [(T.so O.2.1 dO).r14]
        refine ⟨Bx.k O 0 (by decide) rfl, ?_⟩
        refine S_X3_byteAt O (by omega) (fun x28 e28 => ?_)
        subst e28
        rw [T46.2 i (by omega) (by omega)]
        first
        | (exfalso; omega)
        | (refine H _ (by omega) ?_
           first | rfl | omega)
      · exact absurd c20 (by decide)
    · refine ⟨⟨by omega, by omega⟩, ?_⟩
      refine S_X6_needIndex (by omega) (fun c20 => ?_) (fun c20 n20 l20 => ?_)
      · exact absurd rfl c20
      · exact HX 2 _ (by omega) l20
