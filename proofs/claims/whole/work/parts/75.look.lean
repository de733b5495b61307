/-! the class's hall: orders (written by wip/whole/tools/eng.py) -/
section VCS
variable {call : PC} {mc ms fr : Nat} {Q : Int → PH → Prop} {X : Nat → PH → Prop} {K : PK}
set_option maxRecDepth 100000 in
theorem v_X0_comesBefore_0 (a0 : Nat) (i1 : Int) (i2 : Int) (i3 : Int) (z4 : Option PV) (z5 : Option PV) (h : PH) (c s : Nat) (H : hk h a0 = 1 ∧ hk h (hr h a0 5) = 2 ∧ call m_X1_part [pA (hr h a0 5), pI i1, pI i2, pI 1] h (fun x1 h1 =>
 hk h1 a0 = 1 ∧ call m_X0_urgencyOf [pA a0, pI i1, pI x1] h1 (fun x2 h2 =>
 hk h2 a0 = 1 ∧ hk h2 (hr h2 a0 5) = 2 ∧ call m_X1_part [pA (hr h2 a0 5), pI i1, pI i3, pI 1] h2 (fun x3 h3 =>
 hk h3 a0 = 1 ∧ call m_X0_urgencyOf [pA a0, pI i1, pI x3] h3 (fun x4 h4 =>
 InR x2 ∧ InR x4 ∧ (x4 < x2 →
 ((1 : Int) = 0 ∨ (1 : Int) = 1) ∧ Q 1 h4) ∧
(x2 ≤ x4 →
 InR x2 ∧ InR x4 ∧ (x2 = x4 →
 InR i2 ∧ InR i3 ∧ (i2 < i3 →
 ((1 : Int) = 0 ∨ (1 : Int) = 1) ∧ Q 1 h4) ∧
(i3 ≤ i2 →
 ((0 : Int) = 0 ∨ (0 : Int) = 1) ∧ Q 0 h4)) ∧
(x2 ≠ x4 →
 ((0 : Int) = 0 ∨ (0 : Int) = 1) ∧ Q 0 h4))) X) X) X) X) : wpc k_X0_comesBefore [] call mc ms fr Q X [] K 400 (pto 0 k_X0_comesBefore) [some (pA a0), some (pI i1), some (pI i2), some (pI i3), z4, z5] [] h c s :=
  H
set_option maxRecDepth 100000 in
theorem v_X0_firstUnmasked_0 (a0 : Nat) (i1 : Int) (z2 : Option PV) (z3 : Option PV) (z4 : Option PV) (z5 : Option PV) (z6 : Option PV) (h : PH) (c s : Nat) (H : K 7 [some (pA a0), some (pI i1), some (pI ((-1))), some (pI ((-1))), some (pI 0), z5, z6] [] h c s) : wpc k_X0_firstUnmasked [] call mc ms fr Q X [7] K 400 (pto 0 k_X0_firstUnmasked) [some (pA a0), some (pI i1), z2, z3, z4, z5, z6] [] h c s :=
  H
set_option maxRecDepth 100000 in
theorem v_X0_firstUnmasked_7 (a0 : Nat) (i1 : Int) (i2 : Int) (i3 : Int) (i4 : Int) (z5 : Option PV) (z6 : Option PV) (h : PH) (c s : Nat) (H : hk h a0 = 1 ∧ hk h (hr h a0 5) = 2 ∧ call m_X1_sizeOf [pA (hr h a0 5), pI i1] h (fun x1 h1 =>
 InR i4 ∧ InR x1 ∧ (i4 < x1 →
 hk h1 a0 = 1 ∧ hk h1 (hr h1 a0 5) = 2 ∧ call m_X1_part [pA (hr h1 a0 5), pI i1, pI i4, pI 1] h1 (fun x2 h2 =>
 hk h2 a0 = 1 ∧ call m_X0_urgencyOf [pA a0, pI i1, pI x2] h2 (fun x3 h3 =>
 InR x3 ∧ InR i3 ∧ (i3 < x3 →
 hk h3 a0 = 1 ∧ call m_X0_isMasked [pA a0, pI i1, pI x2] h3 (fun x4 h4 =>
 InR x4 ∧ (x4 = 0 →
 K 7 [some (pA a0), some (pI i1), some (pI i4), some (pI x3), some (pI (i4 + 1)), some (pI x2), some (pI x3)] [] h4 c s) ∧
(x4 ≠ 0 →
 K 7 [some (pA a0), some (pI i1), some (pI i2), some (pI i3), some (pI (i4 + 1)), some (pI x2), some (pI x3)] [] h4 c s)) X) ∧
(x3 ≤ i3 →
 K 7 [some (pA a0), some (pI i1), some (pI i2), some (pI i3), some (pI (i4 + 1)), some (pI x2), some (pI x3)] [] h3 c s)) X) X) ∧
(x1 ≤ i4 →
 Q i2 h1)) X) : wpc k_X0_firstUnmasked [] call mc ms fr Q X [7] K 400 (pto 7 k_X0_firstUnmasked) [some (pA a0), some (pI i1), some (pI i2), some (pI i3), some (pI i4), z5, z6] [] h c s :=
  H
set_option maxRecDepth 100000 in
theorem v_X0_lastInOrder_0 (a0 : Nat) (i1 : Int) (z2 : Option PV) (z3 : Option PV) (z4 : Option PV) (z5 : Option PV) (h : PH) (c s : Nat) (H : K 9 [some (pA a0), some (pI i1), some (pI ((-1))), some (pI 999), some (pI 0), z5] [] h c s) : wpc k_X0_lastInOrder [] call mc ms fr Q X [9] K 400 (pto 0 k_X0_lastInOrder) [some (pA a0), some (pI i1), z2, z3, z4, z5] [] h c s :=
  H
set_option maxRecDepth 100000 in
theorem v_X0_lastInOrder_9 (a0 : Nat) (i1 : Int) (i2 : Int) (i3 : Int) (i4 : Int) (z5 : Option PV) (h : PH) (c s : Nat) (H : hk h a0 = 1 ∧ hk h (hr h a0 5) = 2 ∧ call m_X1_sizeOf [pA (hr h a0 5), pI i1] h (fun x1 h1 =>
 InR i4 ∧ InR x1 ∧ (i4 < x1 →
 hk h1 a0 = 1 ∧ hk h1 (hr h1 a0 5) = 2 ∧ call m_X1_part [pA (hr h1 a0 5), pI i1, pI i4, pI 1] h1 (fun x2 h2 =>
 hk h2 a0 = 1 ∧ call m_X0_urgencyOf [pA a0, pI i1, pI x2] h2 (fun x3 h3 =>
 InR x3 ∧ InR i3 ∧ (i3 < x3 →
 K 9 [some (pA a0), some (pI i1), some (pI i2), some (pI i3), some (pI (i4 + 1)), some (pI x3)] [] h3 c s) ∧
(x3 ≤ i3 →
 K 9 [some (pA a0), some (pI i1), some (pI i4), some (pI x3), some (pI (i4 + 1)), some (pI x3)] [] h3 c s)) X) X) ∧
(x1 ≤ i4 →
 Q i2 h1)) X) : wpc k_X0_lastInOrder [] call mc ms fr Q X [9] K 400 (pto 9 k_X0_lastInOrder) [some (pA a0), some (pI i1), some (pI i2), some (pI i3), some (pI i4), z5] [] h c s :=
  H
set_option maxRecDepth 100000 in
theorem v_X0_placeInOrder_0 (a0 : Nat) (i1 : Int) (i2 : Int) (z3 : Option PV) (z4 : Option PV) (z5 : Option PV) (z6 : Option PV) (h : PH) (c s : Nat) (H : hk h a0 = 1 ∧ hk h (hr h a0 5) = 2 ∧ call m_X1_sizeOf [pA (hr h a0 5), pI i1] h (fun x1 h1 =>
 K 12 [some (pA a0), some (pI i1), some (pI i2), some (pI x1), some (pI 0), z5, z6] [] h1 c s) X) : wpc k_X0_placeInOrder [] call mc ms fr Q X [12, 24] K 400 (pto 0 k_X0_placeInOrder) [some (pA a0), some (pI i1), some (pI i2), z3, z4, z5, z6] [] h c s :=
  H
set_option maxRecDepth 100000 in
theorem v_X0_placeInOrder_12 (a0 : Nat) (i1 : Int) (i2 : Int) (i3 : Int) (i4 : Int) (z5 : Option PV) (z6 : Option PV) (h : PH) (c s : Nat) (H : InR i4 ∧ InR i3 ∧ (i4 < i3 →
 K 24 [some (pA a0), some (pI i1), some (pI i2), some (pI i3), some (pI i4), some (pI 0), some (pI 0)] [] h c s) ∧
(i3 ≤ i4 →
 Q ((-1)) h)) : wpc k_X0_placeInOrder [] call mc ms fr Q X [12, 24] K 400 (pto 12 k_X0_placeInOrder) [some (pA a0), some (pI i1), some (pI i2), some (pI i3), some (pI i4), z5, z6] [] h c s :=
  H
set_option maxRecDepth 100000 in
theorem v_X0_placeInOrder_24 (a0 : Nat) (i1 : Int) (i2 : Int) (i3 : Int) (i4 : Int) (i5 : Int) (i6 : Int) (h : PH) (c s : Nat) (H : InR i6 ∧ InR i3 ∧ (i6 < i3 →
 hk h a0 = 1 ∧ call m_X0_comesBefore [pA a0, pI i1, pI i6, pI i4] h (fun x1 h1 =>
 InR x1 ∧ (x1 = 0 →
 K 24 [some (pA a0), some (pI i1), some (pI i2), some (pI i3), some (pI i4), some (pI i5), some (pI (i6 + 1))] [] h1 c s) ∧
(x1 ≠ 0 →
 K 24 [some (pA a0), some (pI i1), some (pI i2), some (pI i3), some (pI i4), some (pI (i5 + 1)), some (pI (i6 + 1))] [] h1 c s)) X) ∧
(i3 ≤ i6 →
 InR i5 ∧ InR i2 ∧ (i5 = i2 →
 Q i4 h) ∧
(i5 ≠ i2 →
 K 12 [some (pA a0), some (pI i1), some (pI i2), some (pI i3), some (pI (i4 + 1)), some (pI i5), some (pI i6)] [] h c s))) : wpc k_X0_placeInOrder [] call mc ms fr Q X [12, 24] K 400 (pto 24 k_X0_placeInOrder) [some (pA a0), some (pI i1), some (pI i2), some (pI i3), some (pI i4), some (pI i5), some (pI i6)] [] h c s :=
  H
set_option maxRecDepth 100000 in
theorem v_X0_mayBegin_0 (a0 : Nat) (i1 : Int) (i2 : Int) (z3 : Option PV) (h : PH) (c s : Nat) (H : hk h a0 = 1 ∧ hk h (hr h a0 6) = 2 ∧ call m_X1_sizeOf [pA (hr h a0 6), pI i1] h (fun x1 h1 =>
 InR x1 ∧ (x1 = 0 →
 ((1 : Int) = 0 ∨ (1 : Int) = 1) ∧ Q 1 h1) ∧
(x1 ≠ 0 →
 hk h1 a0 = 1 ∧ (hk h1 (hr h1 a0 0) = 20 ∨ hk h1 (hr h1 a0 0) = 26) ∧ (0 ≤ (0 : Int) ∧ (0 : Int) < (hl h1 (hr h1 a0 0) : Int)) ∧ InR x1 ∧ InR (hi h1 (hr h1 a0 0) (Int.toNat (0 : Int))) ∧ (x1 < (hi h1 (hr h1 a0 0) (Int.toNat (0 : Int))) →
 hk h1 a0 = 1 ∧ hk h1 (hr h1 a0 6) = 2 ∧ call m_X1_part [pA (hr h1 a0 6), pI i1, pI (x1 - 1), pI 5] h1 (fun x2 h2 =>
 hk h2 a0 = 1 ∧ (hk h2 (hr h2 a0 0) = 20 ∨ hk h2 (hr h2 a0 0) = 26) ∧ (0 ≤ (1 : Int) ∧ (1 : Int) < (hl h2 (hr h2 a0 0) : Int)) ∧ InR i2 ∧ InR (x2 + (hi h2 (hr h2 a0 0) (Int.toNat (1 : Int)))) ∧ ((x2 + (hi h2 (hr h2 a0 0) (Int.toNat (1 : Int)))) < i2 →
 ((1 : Int) = 0 ∨ (1 : Int) = 1) ∧ Q 1 h2) ∧
(i2 ≤ (x2 + (hi h2 (hr h2 a0 0) (Int.toNat (1 : Int)))) →
 ((0 : Int) = 0 ∨ (0 : Int) = 1) ∧ Q 0 h2)) X) ∧
((hi h1 (hr h1 a0 0) (Int.toNat (0 : Int))) ≤ x1 →
 ((0 : Int) = 0 ∨ (0 : Int) = 1) ∧ Q 0 h1))) X) : wpc k_X0_mayBegin [] call mc ms fr Q X [] K 400 (pto 0 k_X0_mayBegin) [some (pA a0), some (pI i1), some (pI i2), z3] [] h c s :=
  H
end VCS
theorem S_X0_comesBefore {d b : Nat} {h0 h : PH} {E : Nat → Int → Int} {Q : Int → PH → Prop} {X : Nat → PH → Prop} {C K P c N : Int} {s : Int → Int} {p a o : Int} (M : Hx b h0 h E) (R : HR E C K s) (I : HI K P c N s) (hK : 0 ≤ K ∧ K ≤ 8) (hp : 0 ≤ p ∧ p < 6) (ha : 0 ≤ a ∧ a < s (115 + p)) (ho : 0 ≤ o ∧ o < s (115 + p)) (H : ∀ x : Int, x = (ahd s p a o) → Q x h) : RUN GQ (d + 2) m_X0_comesBefore [pA b, pI p, pI a, pI o] h Q X := by
  have q0 := I.qn hp
  have q13 := I.hq.1
  have qa := I.qe hp ha
  have qo := I.qe hp ho
  unfold QE at qa qo
  have u1 := I.ur hp (k := qv s p a 1) ⟨qa.2.1.1, by omega⟩
  have u2 := I.ur hp (k := qv s p o 1) ⟨qo.2.1.1, by omega⟩
  rw [e_X0_comesBefore]
  refine WP.of (RUN.mono GQ _) (cuts := []) (n := 400) (v_X0_comesBefore_0 _ _ _ _ _ _ _ _ _ ?_)
  refine ⟨Bx.k M 0 (by decide) rfl, ?_⟩
  try rw [show hr h b 5 = b + 6 from Bx.r M 0 5 6 (by decide)]
  refine ⟨Bx.k M 6 (by decide) rfl, ?_⟩
  refine S_X1_part_qR M R I (by omega) (by omega) (by omega) (fun x9 e9 => ?_)
  subst e9
  refine ⟨Bx.k M 0 (by decide) rfl, ?_⟩
  refine S_X0_urgencyOf M R I (by omega) (by omega) (by omega) (fun x12 e12 => ?_)
  subst e12
  refine ⟨Bx.k M 0 (by decide) rfl, ?_⟩
  try rw [show hr h b 5 = b + 6 from Bx.r M 0 5 6 (by decide)]
  refine ⟨Bx.k M 6 (by decide) rfl, ?_⟩
  refine S_X1_part_qR M R I (by omega) (by omega) (by omega) (fun x26 e26 => ?_)
  subst e26
  refine ⟨Bx.k M 0 (by decide) rfl, ?_⟩
  refine S_X0_urgencyOf M R I (by omega) (by omega) (by omega) (fun x29 e29 => ?_)
  subst e29
  refine ⟨ir (by omega) (by omega), ir (by omega) (by omega), fun c38 => ?_, fun c38 => ?_⟩
  · refine ⟨(by omega), ?_⟩
    refine H _ ?_
    unfold ahd; (repeat' split) <;> first | rfl | (exfalso; omega)
  · refine ⟨ir (by omega) (by omega), ir (by omega) (by omega), fun c45 => ?_, fun c45 => ?_⟩
    · refine ⟨ir (by omega) (by omega), ir (by omega) (by omega), fun c50 => ?_, fun c50 => ?_⟩
      · refine ⟨(by omega), ?_⟩
        refine H _ ?_
        unfold ahd; (repeat' split) <;> first | rfl | (exfalso; omega)
      · refine ⟨(by omega), ?_⟩
        refine H _ ?_
        unfold ahd; (repeat' split) <;> first | rfl | (exfalso; omega)
    · refine ⟨(by omega), ?_⟩
      refine H _ ?_
      unfold ahd; (repeat' split) <;> first | rfl | (exfalso; omega)
theorem L_X0_firstUnmasked_7 {d b : Nat} {h0 h : PH} {E : Nat → Int → Int} {Q : Int → PH → Prop} {X : Nat → PH → Prop} {C K P c N : Int} {s : Int → Int} {p : Int} (M : Hx b h0 h E) (R : HR E C K s) (I : HI K P c N s) (hK : 0 ≤ K ∧ K ≤ 8) (hp : 0 ≤ p ∧ p < 6) : ∀ (n : Nat) (f gr i : Int) (z5 z6 : Option PV), (0 ≤ i) → (i + n = s (115 + p)) → (f = -1 ∧ gr = -1 ∨ (0 ≤ f ∧ f < i) ∧ gr = ur s p (qv s p f 1)) → (∀ x : Int, x = nxl s p n i f → Q x h) → WP k_X0_firstUnmasked [] (RUN GQ (d + 2)) 0 0 (d + 3) Q X 7 [some (pA b), some (pI p), some (pI f), some (pI gr), some (pI i), z5, z6] [] h 0 0 := by
  intro n
  induction n with
  | zero =>
    intro f gr i z5 z6 hi0 hn0 hf H
    have q0 := I.qn hp
    have q13 := I.hq.1
    refine WP.of (RUN.mono GQ _) (cuts := [7]) (n := 400) (v_X0_firstUnmasked_7 _ _ _ _ _ _ _ _ _ _ ?_)
    refine ⟨Bx.k M 0 (by decide) rfl, ?_⟩
    try rw [show hr h b 5 = b + 6 from Bx.r M 0 5 6 (by decide)]
    refine ⟨Bx.k M 6 (by decide) rfl, ?_⟩
    refine S_X1_sizeOf_qR M R I (by omega) (fun x14 e14 => ?_)
    subst e14
    refine ⟨ir (by omega) (by omega), ir (by omega) (by omega), fun c17 => ?_, fun c17 => ?_⟩
    · exfalso; omega
    · exact H _ rfl
  | succ n ih =>
    intro f gr i z5 z6 hi0 hn0 hf H
    have q0 := I.qn hp
    have q13 := I.hq.1
    have qk := I.qe hp ⟨hi0, by omega⟩
    unfold QE at qk
    have uu := I.ur hp (k := qv s p i 1) ⟨qk.2.1.1, by omega⟩
    have a1 := ahd_iff (s := s) (p := p) i f
    have m01 := msk_01 (s := s) p (qv s p i 1)
    have gb : -1 ≤ gr ∧ gr ≤ 99 := by
      rcases hf with hf | hf
      · omega
      · have qf := I.qe hp ⟨hf.1.1, by omega⟩
        unfold QE at qf
        have := (I.ur hp (k := qv s p f 1) ⟨qf.2.1.1, by omega⟩).1
        omega
    refine WP.of (RUN.mono GQ _) (cuts := [7]) (n := 400) (v_X0_firstUnmasked_7 _ _ _ _ _ _ _ _ _ _ ?_)
    refine ⟨Bx.k M 0 (by decide) rfl, ?_⟩
    try rw [show hr h b 5 = b + 6 from Bx.r M 0 5 6 (by decide)]
    refine ⟨Bx.k M 6 (by decide) rfl, ?_⟩
    refine S_X1_sizeOf_qR M R I (by omega) (fun x14 e14 => ?_)
    subst e14
    refine ⟨ir (by omega) (by omega), ir (by omega) (by omega), fun c17 => ?_, fun c17 => ?_⟩
    · refine ⟨Bx.k M 0 (by decide) rfl, ?_⟩
      try rw [show hr h b 5 = b + 6 from Bx.r M 0 5 6 (by decide)]
      refine ⟨Bx.k M 6 (by decide) rfl, ?_⟩
      refine S_X1_part_qR M R I (by omega) (by omega) (by omega) (fun x28 e28 => ?_)
      subst e28
      refine ⟨Bx.k M 0 (by decide) rfl, ?_⟩
      refine S_X0_urgencyOf M R I (by omega) (by omega) (by omega) (fun x37 e37 => ?_)
      subst e37
      refine ⟨ir (by omega) (by omega), ir (by omega) (by omega), fun c45 => ?_, fun c45 => ?_⟩
      · refine ⟨Bx.k M 0 (by decide) rfl, ?_⟩
        refine S_X0_isMasked M R I (by omega) (fun x52 e52 => ?_)
        subst e52
        refine ⟨ir (by omega) (by omega), fun c55 => ?_, fun c55 => ?_⟩
        · refine ih _ _ _ _ _ (by omega) (by omega) (by omega) ?_
          have e : nxl s p (n + 1) i f = nxl s p n (i + 1) (if msk s p (qv s p i 1) = 0 ∧ (f = -1 ∨ ahd s p i f = 1) then i else f) := rfl
          rw [e] at H
          first | (rw [if_pos (by omega)] at H; exact H) | (rw [if_neg (by omega)] at H; exact H)
        · refine ih _ _ _ _ _ (by omega) (by omega) (by omega) ?_
          have e : nxl s p (n + 1) i f = nxl s p n (i + 1) (if msk s p (qv s p i 1) = 0 ∧ (f = -1 ∨ ahd s p i f = 1) then i else f) := rfl
          rw [e] at H
          first | (rw [if_pos (by omega)] at H; exact H) | (rw [if_neg (by omega)] at H; exact H)
      · refine ih _ _ _ _ _ (by omega) (by omega) (by omega) ?_
        have e : nxl s p (n + 1) i f = nxl s p n (i + 1) (if msk s p (qv s p i 1) = 0 ∧ (f = -1 ∨ ahd s p i f = 1) then i else f) := rfl
        rw [e] at H
        first | (rw [if_pos (by omega)] at H; exact H) | (rw [if_neg (by omega)] at H; exact H)
    · exfalso; omega
theorem S_X0_firstUnmasked {d b : Nat} {h0 h : PH} {E : Nat → Int → Int} {Q : Int → PH → Prop} {X : Nat → PH → Prop} {C K P c N : Int} {s : Int → Int} {p : Int} (M : Hx b h0 h E) (R : HR E C K s) (I : HI K P c N s) (hK : 0 ≤ K ∧ K ≤ 8) (hp : 0 ≤ p ∧ p < 6) (H : ∀ x : Int, x = (nxt s p) → Q x h) : RUN GQ (d + 3) m_X0_firstUnmasked [pA b, pI p] h Q X := by
  have q0 := I.qn hp
  have q13 := I.hq.1
  rw [e_X0_firstUnmasked]
  refine WP.of (RUN.mono GQ _) (cuts := [7]) (n := 400) (v_X0_firstUnmasked_0 _ _ _ _ _ _ _ _ _ _ ?_)
  refine L_X0_firstUnmasked_7 M R I hK hp ((s (115 + p)).toNat) _ _ _ _ _ (by omega) (by omega) (by exact Or.inl ⟨rfl, rfl⟩) ?_
  exact H
theorem L_X0_lastInOrder_9 {d b : Nat} {h0 h : PH} {E : Nat → Int → Int} {Q : Int → PH → Prop} {X : Nat → PH → Prop} {C K P c N : Int} {s : Int → Int} {p : Int} (M : Hx b h0 h E) (R : HR E C K s) (I : HI K P c N s) (hK : 0 ≤ K ∧ K ≤ 8) (hp : 0 ≤ p ∧ p < 6) (hs : 0 < s (115 + p)) : ∀ (n : Nat) (f gr i : Int) (z5 : Option PV), (0 ≤ i) → (i + n = s (115 + p)) → (i = 0 ∧ gr = 999 ∨ ((0 ≤ f ∧ f < i) ∧ gr = ur s p (qv s p f 1)) ∧ ∀ o, 0 ≤ o → o < i → o ≠ f → ahd s p o f = 1) → (0 ≤ gr ∧ gr ≤ 999) → (∀ x : Int, x = plc s p (s (115 + p) - 1) → Q x h) → WP k_X0_lastInOrder [] (RUN GQ (d + 1)) 0 0 (d + 2) Q X 9 [some (pA b), some (pI p), some (pI f), some (pI gr), some (pI i), z5] [] h 0 0 := by
  intro n
  induction n with
  | zero =>
    intro f gr i z5 hi0 hn0 hf hgr H
    have q0 := I.qn hp
    have q13 := I.hq.1
    refine WP.of (RUN.mono GQ _) (cuts := [9]) (n := 400) (v_X0_lastInOrder_9 _ _ _ _ _ _ _ _ _ ?_)
    refine ⟨Bx.k M 0 (by decide) rfl, ?_⟩
    try rw [show hr h b 5 = b + 6 from Bx.r M 0 5 6 (by decide)]
    refine ⟨Bx.k M 6 (by decide) rfl, ?_⟩
    refine S_X1_sizeOf_qR M R I (by omega) (fun x16 e16 => ?_)
    subst e16
    refine ⟨ir (by omega) (by omega), ir (by omega) (by omega), fun c19 => ?_, fun c19 => ?_⟩
    · exfalso; omega
    · rcases hf with hf | hf
      · exfalso; omega
      · exact H _ (plc_last ⟨hf.1.1.1, by omega⟩ (fun o a b z => hf.2 o a (by omega) z)).symm
  | succ n ih =>
    intro f gr i z5 hi0 hn0 hf hgr H
    have q0 := I.qn hp
    have q13 := I.hq.1
    have qk := I.qe hp ⟨hi0, by omega⟩
    unfold QE at qk
    have uu := I.ur hp (k := qv s p i 1) ⟨qk.2.1.1, by omega⟩
    refine WP.of (RUN.mono GQ _) (cuts := [9]) (n := 400) (v_X0_lastInOrder_9 _ _ _ _ _ _ _ _ _ ?_)
    refine ⟨Bx.k M 0 (by decide) rfl, ?_⟩
    try rw [show hr h b 5 = b + 6 from Bx.r M 0 5 6 (by decide)]
    refine ⟨Bx.k M 6 (by decide) rfl, ?_⟩
    refine S_X1_sizeOf_qR M R I (by omega) (fun x16 e16 => ?_)
    subst e16
    refine ⟨ir (by omega) (by omega), ir (by omega) (by omega), fun c19 => ?_, fun c19 => ?_⟩
    · refine ⟨Bx.k M 0 (by decide) rfl, ?_⟩
      try rw [show hr h b 5 = b + 6 from Bx.r M 0 5 6 (by decide)]
      refine ⟨Bx.k M 6 (by decide) rfl, ?_⟩
      refine S_X1_part_qR M R I (by omega) (by omega) (by omega) (fun x32 e32 => ?_)
      subst e32
      refine ⟨Bx.k M 0 (by decide) rfl, ?_⟩
      refine S_X0_urgencyOf M R I (by omega) (by omega) (by omega) (fun x35 e35 => ?_)
      subst e35
      refine ⟨ir (by omega) (by omega), ir (by omega) (by omega), fun c43 => ?_, fun c43 => ?_⟩
      · refine ih _ _ _ _ (by omega) (by omega) (by first | exact lio_new hf hi0 c43 | exact lio_old hf hi0 c43 (fun _ => uu.1.2)) (by omega) ?_
        exact H
      · refine ih _ _ _ _ (by omega) (by omega) (by first | exact lio_new hf hi0 c43 | exact lio_old hf hi0 c43 (fun _ => uu.1.2)) (by omega) ?_
        exact H
    · exfalso; omega
theorem S_X0_lastInOrder {d b : Nat} {h0 h : PH} {E : Nat → Int → Int} {Q : Int → PH → Prop} {X : Nat → PH → Prop} {C K P c N : Int} {s : Int → Int} {p : Int} (M : Hx b h0 h E) (R : HR E C K s) (I : HI K P c N s) (hK : 0 ≤ K ∧ K ≤ 8) (hp : 0 ≤ p ∧ p < 6) (hs : 0 < s (115 + p)) (H : ∀ x : Int, x = (plc s p (s (115 + p) - 1)) → Q x h) : RUN GQ (d + 2) m_X0_lastInOrder [pA b, pI p] h Q X := by
  have q0 := I.qn hp
  have q13 := I.hq.1
  rw [e_X0_lastInOrder]
  refine WP.of (RUN.mono GQ _) (cuts := [9]) (n := 400) (v_X0_lastInOrder_0 _ _ _ _ _ _ _ _ _ ?_)
  refine L_X0_lastInOrder_9 M R I hK hp hs ((s (115 + p)).toNat) _ _ _ _ (by omega) (by omega) (by exact Or.inl ⟨rfl, rfl⟩) (by omega) ?_
  exact H
theorem L_X0_placeInOrder_24 {d b : Nat} {h0 h : PH} {E : Nat → Int → Int} {Q : Int → PH → Prop} {X : Nat → PH → Prop} {C K P c N : Int} {s : Int → Int} {p y : Int} {sz k : Int} (M : Hx b h0 h E) (R : HR E C K s) (I : HI K P c N s) (hK : 0 ≤ K ∧ K ≤ 8) (hp : 0 ≤ p ∧ p < 6) (hy : InR y) (hz : sz = s (115 + p)) (hkx : 0 ≤ k ∧ k < s (115 + p)) : ∀ (n : Nat) (a o : Int), (0 ≤ o) → (o + n = s (115 + p)) → (0 ≤ a ∧ a ≤ o) → ((cntl s p k n o a = y → Q k h) ∧ (cntl s p k n o a ≠ y → ∀ z5 z6 : Option PV, WP k_X0_placeInOrder [] (RUN GQ (d + 2)) 0 0 (d + 3) Q X 12 [some (pA b), some (pI p), some (pI y), some (pI sz), some (pI (k + 1)), z5, z6] [] h 0 0)) → WP k_X0_placeInOrder [] (RUN GQ (d + 2)) 0 0 (d + 3) Q X 24 [some (pA b), some (pI p), some (pI y), some (pI sz), some (pI k), some (pI a), some (pI o)] [] h 0 0 := by
  intro n
  induction n with
  | zero =>
    intro a o ho hn0 ha H
    have q0 := I.qn hp
    have q13 := I.hq.1
    have a01 := ahd_01 (s := s) (p := p) o k
    have asf := ahd_self s p k
    refine WP.of (RUN.mono GQ _) (cuts := [12, 24]) (n := 400) (v_X0_placeInOrder_24 _ _ _ _ _ _ _ _ _ _ ?_)
    refine ⟨ir (by omega) (by omega), ir (by omega) (by omega), fun c27 => ?_, fun c27 => ?_⟩
    · exfalso; omega
    · refine ⟨ir (by omega) (by omega), ir (by omega) (by omega), fun c54 => ?_, fun c54 => ?_⟩
      · exact H.1 c54
      · exact H.2 c54 _ _
  | succ n ih =>
    intro a o ho hn0 ha H
    have q0 := I.qn hp
    have q13 := I.hq.1
    have a01 := ahd_01 (s := s) (p := p) o k
    have asf := ahd_self s p k
    refine WP.of (RUN.mono GQ _) (cuts := [12, 24]) (n := 400) (v_X0_placeInOrder_24 _ _ _ _ _ _ _ _ _ _ ?_)
    refine ⟨ir (by omega) (by omega), ir (by omega) (by omega), fun c27 => ?_, fun c27 => ?_⟩
    · refine ⟨Bx.k M 0 (by decide) rfl, ?_⟩
      refine S_X0_comesBefore M R I hK (by omega) (by omega) (by omega) (fun x36 e36 => ?_)
      subst e36
      refine ⟨ir (by omega) (by omega), fun c39 => ?_, fun c39 => ?_⟩
      · refine ih _ _ (by omega) (by omega) (by omega) ?_
        have e : cntl s p k (n + 1) o a = cntl s p k n (o + 1) (a + (if o = k then 0 else ahd s p o k)) := rfl
        rw [e] at H
        have e2 : (if o = k then 0 else ahd s p o k) = ahd s p o k := by
          split
          · rename_i q; rw [q, asf]
          · rfl
        rw [e2] at H
        first | (rw [show ahd s p o k = 1 by omega] at H; exact H) | (rw [show ahd s p o k = 0 by omega, Int.add_zero] at H; exact H)
      · refine ih _ _ (by omega) (by omega) (by omega) ?_
        have e : cntl s p k (n + 1) o a = cntl s p k n (o + 1) (a + (if o = k then 0 else ahd s p o k)) := rfl
        rw [e] at H
        have e2 : (if o = k then 0 else ahd s p o k) = ahd s p o k := by
          split
          · rename_i q; rw [q, asf]
          · rfl
        rw [e2] at H
        first | (rw [show ahd s p o k = 1 by omega] at H; exact H) | (rw [show ahd s p o k = 0 by omega, Int.add_zero] at H; exact H)
    · exfalso; omega
theorem L_X0_placeInOrder_12 {d b : Nat} {h0 h : PH} {E : Nat → Int → Int} {Q : Int → PH → Prop} {X : Nat → PH → Prop} {C K P c N : Int} {s : Int → Int} {p y : Int} {sz : Int} (M : Hx b h0 h E) (R : HR E C K s) (I : HI K P c N s) (hK : 0 ≤ K ∧ K ≤ 8) (hp : 0 ≤ p ∧ p < 6) (hy : InR y) (hz : sz = s (115 + p)) : ∀ (n : Nat) (k : Int) (z5 z6 : Option PV), (0 ≤ k) → (k + n = s (115 + p)) → (∀ x : Int, x = plcl s p y n k → Q x h) → WP k_X0_placeInOrder [] (RUN GQ (d + 2)) 0 0 (d + 3) Q X 12 [some (pA b), some (pI p), some (pI y), some (pI sz), some (pI k), z5, z6] [] h 0 0 := by
  intro n
  induction n with
  | zero =>
    intro k z5 z6 hk0 hn0 H
    have q0 := I.qn hp
    have q13 := I.hq.1
    refine WP.of (RUN.mono GQ _) (cuts := [12, 24]) (n := 400) (v_X0_placeInOrder_12 _ _ _ _ _ _ _ _ _ _ ?_)
    refine ⟨ir (by omega) (by omega), ir (by omega) (by omega), fun c15 => ?_, fun c15 => ?_⟩
    · exfalso; omega
    · exact H _ rfl
  | succ n ih =>
    intro k z5 z6 hk0 hn0 H
    have q0 := I.qn hp
    have q13 := I.hq.1
    refine WP.of (RUN.mono GQ _) (cuts := [12, 24]) (n := 400) (v_X0_placeInOrder_12 _ _ _ _ _ _ _ _ _ _ ?_)
    refine ⟨ir (by omega) (by omega), ir (by omega) (by omega), fun c15 => ?_, fun c15 => ?_⟩
    · refine L_X0_placeInOrder_24 M R I hK hp hy hz (by omega) ((s (115 + p)).toNat) _ _ (by omega) (by omega) (by omega) ?_
      have e : plcl s p y (n + 1) k = if cntl s p k (s (115 + p)).toNat 0 0 = y then k else plcl s p y n (k + 1) := rfl
      rw [e] at H
      exact ⟨fun q => H _ (by rw [if_pos q]), fun q _ _ => ih _ _ _ (by omega) (by omega) (by rw [if_neg q] at H; exact H)⟩
    · exfalso; omega
theorem S_X0_placeInOrder {d b : Nat} {h0 h : PH} {E : Nat → Int → Int} {Q : Int → PH → Prop} {X : Nat → PH → Prop} {C K P c N : Int} {s : Int → Int} {p y : Int} (M : Hx b h0 h E) (R : HR E C K s) (I : HI K P c N s) (hK : 0 ≤ K ∧ K ≤ 8) (hp : 0 ≤ p ∧ p < 6) (hy : InR y) (H : ∀ x : Int, x = (plc s p y) → Q x h) : RUN GQ (d + 3) m_X0_placeInOrder [pA b, pI p, pI y] h Q X := by
  have q0 := I.qn hp
  have q13 := I.hq.1
  rw [e_X0_placeInOrder]
  refine WP.of (RUN.mono GQ _) (cuts := [12, 24]) (n := 400) (v_X0_placeInOrder_0 _ _ _ _ _ _ _ _ _ _ ?_)
  refine ⟨Bx.k M 0 (by decide) rfl, ?_⟩
  try rw [show hr h b 5 = b + 6 from Bx.r M 0 5 6 (by decide)]
  refine ⟨Bx.k M 6 (by decide) rfl, ?_⟩
  refine S_X1_sizeOf_qR M R I (by omega) (fun x5 e5 => ?_)
  subst e5
  refine L_X0_placeInOrder_12 M R I hK hp hy rfl ((s (115 + p)).toNat) _ _ _ (by omega) (by omega) ?_
  exact H
theorem S_X0_mayBegin {d b : Nat} {h0 h : PH} {E : Nat → Int → Int} {Q : Int → PH → Prop} {X : Nat → PH → Prop} {C K P c N : Int} {s : Int → Int} {p u : Int} (M : Hx b h0 h E) (R : HR E C K s) (I : HI K P c N s) (hK : 0 ≤ K ∧ K ≤ 8) (hp : 0 ≤ p ∧ p < 6) (hu : InR u) (H : ∀ x : Int, x = (may s p u) → Q x h) : RUN GQ (d + 2) m_X0_mayBegin [pA b, pI p, pI u] h Q X := by
  have q0 := I.sn hp
  have qo := I.ho
  unfold HIo at qo
  have r2 : E 1 2 = s 12 := R.set ⟨by omega, by omega⟩
  have r1 : E 1 1 = s 11 := R.set ⟨by omega, by omega⟩
  have r0 : E 1 0 = s 10 := R.set ⟨by omega, by omega⟩
  rw [e_X0_mayBegin]
  refine WP.of (RUN.mono GQ _) (cuts := []) (n := 400) (v_X0_mayBegin_0 _ _ _ _ _ _ _ ?_)
  refine ⟨Bx.k M 0 (by decide) rfl, ?_⟩
  try rw [show hr h b 6 = b + 9 from Bx.r M 0 6 9 (by decide)]
  refine ⟨Bx.k M 9 (by decide) rfl, ?_⟩
  refine S_X1_sizeOf_sR M R I (by omega) (fun x5 e5 => ?_)
  subst e5
  refine ⟨ir (by omega) (by omega), fun c10 => ?_, fun c10 => ?_⟩
  · refine ⟨(by omega), ?_⟩
    refine H _ ?_
    unfold may; (repeat' split) <;> first | rfl | (exfalso; omega)
  · refine ⟨Bx.k M 0 (by decide) rfl, ?_⟩
    try rw [show hr h b 0 = b + 1 from Bx.r M 0 0 1 (by decide)]
    refine Bx.ld M 1 4 (by decide) rfl rfl (by omega) (by omega) (fun er => ?_)
    try rw [er]
    clear er
    refine ⟨ir (by omega) (by omega), ir (by omega) (by omega), fun c20 => ?_, fun c20 => ?_⟩
    · refine ⟨Bx.k M 0 (by decide) rfl, ?_⟩
      try rw [show hr h b 6 = b + 9 from Bx.r M 0 6 9 (by decide)]
      refine ⟨Bx.k M 9 (by decide) rfl, ?_⟩
      refine S_X1_part_sR M R I (by omega) (by omega) (by omega) (by omega) (fun x33 e33 => ?_)
      subst e33
      have se := I.se hp (i := s (511 + p) - 1) ⟨by omega, by omega⟩
      unfold SE at se
      rw [svc_5]
      refine ⟨Bx.k M 0 (by decide) rfl, ?_⟩
      try rw [show hr h b 0 = b + 1 from Bx.r M 0 0 1 (by decide)]
      refine Bx.ld M 1 4 (by decide) rfl rfl (by omega) (by omega) (fun er => ?_)
      try rw [er]
      clear er
      refine ⟨ir (by omega) (by omega), ir (by omega) (by omega), fun c43 => ?_, fun c43 => ?_⟩
      · refine ⟨(by omega), ?_⟩
        refine H _ ?_
        unfold may; (repeat' split) <;> first | rfl | (exfalso; omega)
      · refine ⟨(by omega), ?_⟩
        refine H _ ?_
        unfold may; (repeat' split) <;> first | rfl | (exfalso; omega)
    · refine ⟨(by omega), ?_⟩
      refine H _ ?_
      unfold may; (repeat' split) <;> first | rfl | (exfalso; omega)
