/-! the class's lists (written by wip/whole/tools/eng.py) -/
section VCS
variable {call : PC} {mc ms fr : Nat} {Q : Int → PH → Prop} {X : Nat → PH → Prop} {K : PK}
set_option maxRecDepth 100000 in
theorem v_X1_sizeOf_0 (a0 : Nat) (i1 : Int) (h : PH) (c s : Nat) (H : InR i1 ∧ (i1 < 0 →
 Q 0 h) ∧
(0 ≤ i1 →
 hk h a0 = 2 ∧ (20 ≤ hk h (hr h a0 1) ∧ hk h (hr h a0 1) ≤ 26) ∧ InR i1 ∧ InR ((hl h (hr h a0 1) : Int)) ∧ (i1 < ((hl h (hr h a0 1) : Int)) →
 hk h a0 = 2 ∧ (hk h (hr h a0 1) = 20 ∨ hk h (hr h a0 1) = 26) ∧ (0 ≤ i1 ∧ i1 < (hl h (hr h a0 1) : Int)) ∧ Q (hi h (hr h a0 1) (Int.toNat i1)) h) ∧
(((hl h (hr h a0 1) : Int)) ≤ i1 →
 Q 0 h))) : wpc k_X1_sizeOf [] call mc ms fr Q X [] K 400 (pto 0 k_X1_sizeOf) [some (pA a0), some (pI i1)] [] h c s :=
  H
set_option maxRecDepth 100000 in
theorem v_X1_part_0 (a0 : Nat) (i1 : Int) (i2 : Int) (i3 : Int) (z4 : Option PV) (h : PH) (c s : Nat) (H : hk h a0 = 2 ∧ InR ((((i1 * (hi h a0 0)) + i2) * 7) + i3) ∧ (((((i1 * (hi h a0 0)) + i2) * 7) + i3) < 0 →
 Q 0 h) ∧
(0 ≤ ((((i1 * (hi h a0 0)) + i2) * 7) + i3) →
 hk h a0 = 2 ∧ (20 ≤ hk h (hr h a0 2) ∧ hk h (hr h a0 2) ≤ 26) ∧ InR ((((i1 * (hi h a0 0)) + i2) * 7) + i3) ∧ InR ((hl h (hr h a0 2) : Int)) ∧ (((((i1 * (hi h a0 0)) + i2) * 7) + i3) < ((hl h (hr h a0 2) : Int)) →
 hk h a0 = 2 ∧ (hk h (hr h a0 2) = 20 ∨ hk h (hr h a0 2) = 26) ∧ (0 ≤ ((((i1 * (hi h a0 0)) + i2) * 7) + i3) ∧ ((((i1 * (hi h a0 0)) + i2) * 7) + i3) < (hl h (hr h a0 2) : Int)) ∧ Q (hi h (hr h a0 2) (Int.toNat (((((i1 * (hi h a0 0)) + i2) * 7) + i3)))) h) ∧
(((hl h (hr h a0 2) : Int)) ≤ ((((i1 * (hi h a0 0)) + i2) * 7) + i3) →
 Q 0 h))) : wpc k_X1_part [] call mc ms fr Q X [] K 400 (pto 0 k_X1_part) [some (pA a0), some (pI i1), some (pI i2), some (pI i3), z4] [] h c s :=
  H
set_option maxRecDepth 100000 in
theorem v_X1_put_0 (a0 : Nat) (i1 : Int) (i2 : Int) (i3 : Int) (i4 : Int) (z5 : Option PV) (h : PH) (c s : Nat) (H : hk h a0 = 2 ∧ InR ((((i1 * (hi h a0 0)) + i2) * 7) + i3) ∧ (((((i1 * (hi h a0 0)) + i2) * 7) + i3) < 0 →
 Q 0 h) ∧
(0 ≤ ((((i1 * (hi h a0 0)) + i2) * 7) + i3) →
 hk h a0 = 2 ∧ (20 ≤ hk h (hr h a0 2) ∧ hk h (hr h a0 2) ≤ 26) ∧ InR ((((i1 * (hi h a0 0)) + i2) * 7) + i3) ∧ InR ((hl h (hr h a0 2) : Int)) ∧ (((((i1 * (hi h a0 0)) + i2) * 7) + i3) < ((hl h (hr h a0 2) : Int)) →
 hk h a0 = 2 ∧ hk h (hr h a0 2) = 20 ∧ (0 ≤ ((((i1 * (hi h a0 0)) + i2) * 7) + i3) ∧ ((((i1 * (hi h a0 0)) + i2) * 7) + i3) < (hl h (hr h a0 2) : Int)) ∧ ∀ h1, h1 = hsi h (hr h a0 2) (Int.toNat (((((i1 * (hi h a0 0)) + i2) * 7) + i3))) i4 →
 Q 0 h1) ∧
(((hl h (hr h a0 2) : Int)) ≤ ((((i1 * (hi h a0 0)) + i2) * 7) + i3) →
 Q 0 h))) : wpc k_X1_put [] call mc ms fr Q X [] K 400 (pto 0 k_X1_put) [some (pA a0), some (pI i1), some (pI i2), some (pI i3), some (pI i4), z5] [] h c s :=
  H
set_option maxRecDepth 100000 in
theorem v_X1_addRow_0 (a0 : Nat) (i1 : Int) (h : PH) (c s : Nat) (H : InR i1 ∧ (i1 < 0 →
 Q ((-1)) h) ∧
(0 ≤ i1 →
 hk h a0 = 2 ∧ (20 ≤ hk h (hr h a0 1) ∧ hk h (hr h a0 1) ≤ 26) ∧ InR i1 ∧ InR ((hl h (hr h a0 1) : Int)) ∧ (i1 < ((hl h (hr h a0 1) : Int)) →
 hk h a0 = 2 ∧ (hk h (hr h a0 1) = 20 ∨ hk h (hr h a0 1) = 26) ∧ (0 ≤ i1 ∧ i1 < (hl h (hr h a0 1) : Int)) ∧ hk h a0 = 2 ∧ InR (hi h (hr h a0 1) (Int.toNat i1)) ∧ InR (hi h a0 0) ∧ ((hi h (hr h a0 1) (Int.toNat i1)) < (hi h a0 0) →
 hk h a0 = 2 ∧ (hk h (hr h a0 1) = 20 ∨ hk h (hr h a0 1) = 26) ∧ (0 ≤ i1 ∧ i1 < (hl h (hr h a0 1) : Int)) ∧ hk h (hr h a0 1) = 20 ∧ (0 ≤ i1 ∧ i1 < (hl h (hr h a0 1) : Int)) ∧ ∀ h1, h1 = hsi h (hr h a0 1) (Int.toNat i1) ((hi h (hr h a0 1) (Int.toNat i1)) + 1) →
 hk h1 a0 = 2 ∧ (hk h1 (hr h1 a0 1) = 20 ∨ hk h1 (hr h1 a0 1) = 26) ∧ (0 ≤ i1 ∧ i1 < (hl h1 (hr h1 a0 1) : Int)) ∧ Q ((hi h1 (hr h1 a0 1) (Int.toNat i1)) - 1) h1) ∧
((hi h a0 0) ≤ (hi h (hr h a0 1) (Int.toNat i1)) →
 Q ((-1)) h)) ∧
(((hl h (hr h a0 1) : Int)) ≤ i1 →
 Q ((-1)) h))) : wpc k_X1_addRow [] call mc ms fr Q X [] K 400 (pto 0 k_X1_addRow) [some (pA a0), some (pI i1)] [] h c s :=
  H
set_option maxRecDepth 100000 in
theorem v_X1_removeRow_0 (a0 : Nat) (i1 : Int) (i2 : Int) (z3 : Option PV) (z4 : Option PV) (z5 : Option PV) (h : PH) (c s : Nat) (H : InR i1 ∧ (i1 < 0 →
 Q 0 h) ∧
(0 ≤ i1 →
 hk h a0 = 2 ∧ (20 ≤ hk h (hr h a0 1) ∧ hk h (hr h a0 1) ≤ 26) ∧ InR i1 ∧ InR ((hl h (hr h a0 1) : Int)) ∧ (i1 < ((hl h (hr h a0 1) : Int)) →
 InR i2 ∧ (i2 < 0 →
 Q 0 h) ∧
(0 ≤ i2 →
 hk h a0 = 2 ∧ (hk h (hr h a0 1) = 20 ∨ hk h (hr h a0 1) = 26) ∧ (0 ≤ i1 ∧ i1 < (hl h (hr h a0 1) : Int)) ∧ InR i2 ∧ InR (hi h (hr h a0 1) (Int.toNat i1)) ∧ (i2 < (hi h (hr h a0 1) (Int.toNat i1)) →
 hk h a0 = 2 ∧ hk h a0 = 2 ∧ hk h a0 = 2 ∧ (hk h (hr h a0 1) = 20 ∨ hk h (hr h a0 1) = 26) ∧ (0 ≤ i1 ∧ i1 < (hl h (hr h a0 1) : Int)) ∧ K 63 [some (pA a0), some (pI i1), some (pI i2), some (pI ((((i1 * (hi h a0 0)) + i2) + 1) * 7)), some (pI (((i1 * (hi h a0 0)) + (hi h (hr h a0 1) (Int.toNat i1))) * 7)), some (pI ((((i1 * (hi h a0 0)) + i2) + 1) * 7))] [] h c s) ∧
((hi h (hr h a0 1) (Int.toNat i1)) ≤ i2 →
 Q 0 h))) ∧
(((hl h (hr h a0 1) : Int)) ≤ i1 →
 Q 0 h))) : wpc k_X1_removeRow [] call mc ms fr Q X [63] K 400 (pto 0 k_X1_removeRow) [some (pA a0), some (pI i1), some (pI i2), z3, z4, z5] [] h c s :=
  H
set_option maxRecDepth 100000 in
theorem v_X1_removeRow_63 (a0 : Nat) (i1 : Int) (i2 : Int) (i3 : Int) (i4 : Int) (i5 : Int) (h : PH) (c s : Nat) (H : InR i5 ∧ InR i4 ∧ (i5 < i4 →
 hk h a0 = 2 ∧ (20 ≤ hk h (hr h a0 2) ∧ hk h (hr h a0 2) ≤ 26) ∧ InR i5 ∧ InR ((hl h (hr h a0 2) : Int)) ∧ (i5 < ((hl h (hr h a0 2) : Int)) →
 hk h a0 = 2 ∧ hk h a0 = 2 ∧ (hk h (hr h a0 2) = 20 ∨ hk h (hr h a0 2) = 26) ∧ (0 ≤ i5 ∧ i5 < (hl h (hr h a0 2) : Int)) ∧ hk h (hr h a0 2) = 20 ∧ (0 ≤ (i5 - 7) ∧ (i5 - 7) < (hl h (hr h a0 2) : Int)) ∧ ∀ h1, h1 = hsi h (hr h a0 2) (Int.toNat ((i5 - 7))) (hi h (hr h a0 2) (Int.toNat i5)) →
 K 63 [some (pA a0), some (pI i1), some (pI i2), some (pI i3), some (pI i4), some (pI (i5 + 1))] [] h1 c s) ∧
(((hl h (hr h a0 2) : Int)) ≤ i5 →
 hk h a0 = 2 ∧ (hk h (hr h a0 1) = 20 ∨ hk h (hr h a0 1) = 26) ∧ (0 ≤ i1 ∧ i1 < (hl h (hr h a0 1) : Int)) ∧ hk h (hr h a0 1) = 20 ∧ (0 ≤ i1 ∧ i1 < (hl h (hr h a0 1) : Int)) ∧ ∀ h2, h2 = hsi h (hr h a0 1) (Int.toNat i1) ((hi h (hr h a0 1) (Int.toNat i1)) - 1) →
 Q 0 h2)) ∧
(i4 ≤ i5 →
 hk h a0 = 2 ∧ (hk h (hr h a0 1) = 20 ∨ hk h (hr h a0 1) = 26) ∧ (0 ≤ i1 ∧ i1 < (hl h (hr h a0 1) : Int)) ∧ hk h (hr h a0 1) = 20 ∧ (0 ≤ i1 ∧ i1 < (hl h (hr h a0 1) : Int)) ∧ ∀ h3, h3 = hsi h (hr h a0 1) (Int.toNat i1) ((hi h (hr h a0 1) (Int.toNat i1)) - 1) →
 Q 0 h3)) : wpc k_X1_removeRow [] call mc ms fr Q X [63] K 400 (pto 63 k_X1_removeRow) [some (pA a0), some (pI i1), some (pI i2), some (pI i3), some (pI i4), some (pI i5)] [] h c s :=
  H
set_option maxRecDepth 100000 in
theorem v_X1_indexOf_0 (a0 : Nat) (i1 : Int) (i2 : Int) (z3 : Option PV) (h : PH) (c s : Nat) (H : K 2 [some (pA a0), some (pI i1), some (pI i2), some (pI 0)] [] h c s) : wpc k_X1_indexOf [] call mc ms fr Q X [2] K 400 (pto 0 k_X1_indexOf) [some (pA a0), some (pI i1), some (pI i2), z3] [] h c s :=
  H
set_option maxRecDepth 100000 in
theorem v_X1_indexOf_2 (a0 : Nat) (i1 : Int) (i2 : Int) (i3 : Int) (h : PH) (c s : Nat) (H : hk h a0 = 2 ∧ call m_X1_sizeOf [pA a0, pI i1] h (fun x1 h1 =>
 InR i3 ∧ InR x1 ∧ (i3 < x1 →
 hk h1 a0 = 2 ∧ call m_X1_part [pA a0, pI i1, pI i3, pI 0] h1 (fun x2 h2 =>
 InR x2 ∧ InR i2 ∧ (x2 = i2 →
 Q i3 h2) ∧
(x2 ≠ i2 →
 K 2 [some (pA a0), some (pI i1), some (pI i2), some (pI (i3 + 1))] [] h2 c s)) X) ∧
(x1 ≤ i3 →
 Q ((-1)) h1)) X) : wpc k_X1_indexOf [] call mc ms fr Q X [2] K 400 (pto 2 k_X1_indexOf) [some (pA a0), some (pI i1), some (pI i2), some (pI i3)] [] h c s :=
  H
end VCS
theorem S_X1_sizeOf_q {d b : Nat} {h0 h : PH} {E : Nat → Int → Int} {Q : Int → PH → Prop} {X : Nat → PH → Prop} {p : Int} (M : Hx b h0 h E) (hp : 0 ≤ p ∧ p < 6) (H : ∀ x : Int, x = (E 7 p) → Q x h) : RUN GQ (d + 1) m_X1_sizeOf [pA (b + 6), pI p] h Q X := by
  rw [e_X1_sizeOf]
  refine WP.of (RUN.mono GQ _) (cuts := []) (n := 400) (v_X1_sizeOf_0 _ _ _ _ _ ?_)
  refine ⟨ir (by omega) (by omega), fun c1 => ?_, fun c1 => ?_⟩
  · first
    | (exfalso; omega)
    | (refine H _ ?_
       first | rfl | omega)
  · refine ⟨Bx.k M 6 (by decide) rfl, ?_⟩
    try rw [show hr h (b + 6) 1 = b + 7 from Bx.r M 6 1 7 (by decide)]
    refine Bx.al M 7 6 20 (by decide) rfl (by decide) rfl (fun el9 => ?_)
    refine ⟨ir (by omega) (by omega), ir (by omega) (by omega), fun c10 => ?_, fun c10 => ?_⟩
    · refine ⟨Bx.k M 6 (by decide) rfl, ?_⟩
      try rw [show hr h (b + 6) 1 = b + 7 from Bx.r M 6 1 7 (by decide)]
      refine Bx.ld M 7 6 (by decide) rfl rfl (by omega) (by omega) (fun er => ?_)
      try rw [er]
      clear er
      first
      | (exfalso; omega)
      | (refine H _ ?_
         first | rfl | omega)
    · first
      | (exfalso; omega)
      | (refine H _ ?_
         first | rfl | omega)
theorem S_X1_part_q {d b : Nat} {h0 h : PH} {E : Nat → Int → Int} {Q : Int → PH → Prop} {X : Nat → PH → Prop} {p i w : Int} (M : Hx b h0 h E) (hR : E 6 0 = 13) (hp : 0 ≤ p ∧ p < 6) (hix : 0 ≤ i ∧ i < 13) (hw : 0 ≤ w ∧ w < 7) (H : ∀ x : Int, x = (E 8 ((p * 13 + i) * 7 + w)) → Q x h) : RUN GQ (d + 1) m_X1_part [pA (b + 6), pI p, pI i, pI w] h Q X := by
  rw [e_X1_part]
  refine WP.of (RUN.mono GQ _) (cuts := []) (n := 400) (v_X1_part_0 _ _ _ _ _ _ _ _ ?_)
  refine ⟨Bx.k M 6 (by decide) rfl, ?_⟩
  try rw [show hi h (b + 6) 0 = _ from Bx.f0 M 6 (by decide)]
  try rw [hR]
  refine ⟨ir (by omega) (by omega), fun c17 => ?_, fun c17 => ?_⟩
  · first
    | (exfalso; omega)
    | (refine H _ ?_
       first | rfl | omega)
  · refine ⟨Bx.k M 6 (by decide) rfl, ?_⟩
    try rw [show hr h (b + 6) 2 = b + 8 from Bx.r M 6 2 8 (by decide)]
    refine Bx.al M 8 546 20 (by decide) rfl (by decide) rfl (fun el26 => ?_)
    refine ⟨ir (by omega) (by omega), ir (by omega) (by omega), fun c27 => ?_, fun c27 => ?_⟩
    · refine ⟨Bx.k M 6 (by decide) rfl, ?_⟩
      try rw [show hr h (b + 6) 2 = b + 8 from Bx.r M 6 2 8 (by decide)]
      refine Bx.ld M 8 546 (by decide) rfl rfl (by omega) (by omega) (fun er => ?_)
      try rw [er]
      clear er
      first
      | (exfalso; omega)
      | (refine H _ ?_
         first | rfl | omega)
    · first
      | (exfalso; omega)
      | (refine H _ ?_
         first | rfl | omega)
theorem S_X1_put_q {d b : Nat} {h0 h : PH} {E : Nat → Int → Int} {Q : Int → PH → Prop} {X : Nat → PH → Prop} {p i w v : Int} (M : Hx b h0 h E) (hR : E 6 0 = 13) (hp : 0 ≤ p ∧ p < 6) (hix : 0 ≤ i ∧ i < 13) (hw : 0 ≤ w ∧ w < 7) (H : ∀ (x : Int) h', x = (0) → Hx b h0 h' (dst E 8 ((p * 13 + i) * 7 + w) v) → Q x h') : RUN GQ (d + 1) m_X1_put [pA (b + 6), pI p, pI i, pI w, pI v] h Q X := by
  rw [e_X1_put]
  refine WP.of (RUN.mono GQ _) (cuts := []) (n := 400) (v_X1_put_0 _ _ _ _ _ _ _ _ _ ?_)
  refine ⟨Bx.k M 6 (by decide) rfl, ?_⟩
  try rw [show hi h (b + 6) 0 = _ from Bx.f0 M 6 (by decide)]
  try rw [hR]
  refine ⟨ir (by omega) (by omega), fun c17 => ?_, fun c17 => ?_⟩
  · first
    | (exfalso; omega)
    | (refine H _ _ ?_ ?_
       · first | rfl | omega
       · exact M)
  · refine ⟨Bx.k M 6 (by decide) rfl, ?_⟩
    try rw [show hr h (b + 6) 2 = b + 8 from Bx.r M 6 2 8 (by decide)]
    refine Bx.al M 8 546 20 (by decide) rfl (by decide) rfl (fun el26 => ?_)
    refine ⟨ir (by omega) (by omega), ir (by omega) (by omega), fun c27 => ?_, fun c27 => ?_⟩
    · refine ⟨Bx.k M 6 (by decide) rfl, ?_⟩
      try rw [show hr h (b + 6) 2 = b + 8 from Bx.r M 6 2 8 (by decide)]
      refine Bx.as M 8 546 (by decide) rfl rfl (by omega) (by omega) (fun h38 M38 => ?_)
      first
      | (exfalso; omega)
      | (refine H _ _ ?_ ?_
         · first | rfl | omega
         · exact M38)
    · first
      | (exfalso; omega)
      | (refine H _ _ ?_ ?_
         · first | rfl | omega
         · exact M)
theorem S_X1_addRow_q {d b : Nat} {h0 h : PH} {E : Nat → Int → Int} {Q : Int → PH → Prop} {X : Nat → PH → Prop} {p : Int} (M : Hx b h0 h E) (hR : E 6 0 = 13) (hp : 0 ≤ p ∧ p < 6) (hs : 0 ≤ E 7 p ∧ E 7 p < 13) (H : ∀ (x : Int) h', x = (E 7 p) → Hx b h0 h' (dst E 7 p (E 7 p + 1)) → Q x h') : RUN GQ (d + 1) m_X1_addRow [pA (b + 6), pI p] h Q X := by
  rw [e_X1_addRow]
  refine WP.of (RUN.mono GQ _) (cuts := []) (n := 400) (v_X1_addRow_0 _ _ _ _ _ ?_)
  refine ⟨ir (by omega) (by omega), fun c1 => ?_, fun c1 => ?_⟩
  · first
    | (exfalso; omega)
    | (refine H _ _ ?_ M
       rw [dst_eq]; omega)
  · refine ⟨Bx.k M 6 (by decide) rfl, ?_⟩
    try rw [show hr h (b + 6) 1 = b + 7 from Bx.r M 6 1 7 (by decide)]
    refine Bx.al M 7 6 20 (by decide) rfl (by decide) rfl (fun el9 => ?_)
    refine ⟨ir (by omega) (by omega), ir (by omega) (by omega), fun c10 => ?_, fun c10 => ?_⟩
    · refine ⟨Bx.k M 6 (by decide) rfl, ?_⟩
      try rw [show hr h (b + 6) 1 = b + 7 from Bx.r M 6 1 7 (by decide)]
      refine Bx.ld M 7 6 (by decide) rfl rfl (by omega) (by omega) (fun er => ?_)
      try rw [er]
      clear er
      refine ⟨Bx.k M 6 (by decide) rfl, ?_⟩
      try rw [show hi h (b + 6) 0 = _ from Bx.f0 M 6 (by decide)]
      try rw [hR]
      refine ⟨ir (by omega) (by omega), ir (by omega) (by omega), fun c23 => ?_, fun c23 => ?_⟩
      · refine ⟨Bx.k M 6 (by decide) rfl, ?_⟩
        try rw [show hr h (b + 6) 1 = b + 7 from Bx.r M 6 1 7 (by decide)]
        refine Bx.ld M 7 6 (by decide) rfl rfl (by omega) (by omega) (fun er => ?_)
        try rw [er]
        clear er
        refine Bx.as M 7 6 (by decide) rfl rfl (by omega) (by omega) (fun h37 M37 => ?_)
        refine ⟨Bx.k M37 6 (by decide) rfl, ?_⟩
        try rw [show hr h37 (b + 6) 1 = b + 7 from Bx.r M37 6 1 7 (by decide)]
        refine Bx.ld M37 7 6 (by decide) rfl rfl (by omega) (by omega) (fun er => ?_)
        try rw [er]
        clear er
        first
        | (exfalso; omega)
        | (refine H _ _ ?_ M37
           rw [dst_eq]; omega)
      · first
        | (exfalso; omega)
        | (refine H _ _ ?_ M
           rw [dst_eq]; omega)
    · first
      | (exfalso; omega)
      | (refine H _ _ ?_ M
         rw [dst_eq]; omega)
theorem L_X1_removeRow_q_63 {d b : Nat} {h0 : PH} {Q : Int → PH → Prop} {X : Nat → PH → Prop} {p i : Int} {fr t : Int} (hp : 0 ≤ p ∧ p < 6) : ∀ (n : Nat) (at' : Int) (E : Nat → Int → Int) (h : PH), (Hx b h0 h E) → (7 ≤ at') → (at' + n = t) → (t ≤ 546) → (∀ (x : Int) h', x = 0 → Hx b h0 h' (dst (srow E 8 (sfl 7 n (at' - 7) (E 8))) 7 p (E 7 p - 1)) → Q x h') → WP k_X1_removeRow [] (RUN GQ (d + 0)) 0 0 (d + 1) Q X 63 [some (pA (b + 6)), some (pI p), some (pI i), some (pI fr), some (pI t), some (pI at')] [] h 0 0 := by
  intro n
  induction n with
  | zero =>
    intro at' E h M ha hn ht H
    refine WP.of (RUN.mono GQ _) (cuts := [63]) (n := 400) (v_X1_removeRow_63 _ _ _ _ _ _ _ _ _ ?_)
    refine ⟨ir (by omega) (by omega), ir (by omega) (by omega), fun c67 => ?_, fun c67 => ?_⟩
    · exfalso; omega
    · refine ⟨Bx.k M 6 (by decide) rfl, ?_⟩
      try rw [show hr h (b + 6) 1 = b + 7 from Bx.r M 6 1 7 (by decide)]
      refine Bx.ld M 7 6 (by decide) rfl rfl (by omega) (by omega) (fun er => ?_)
      try rw [er]
      clear er
      refine Bx.as M 7 6 (by decide) rfl rfl (by omega) (by omega) (fun h112 M112 => ?_)
      first | (exfalso; omega) | (exact H _ _ rfl (M112.cast (by show dst (srow E 8 (E 8)) 7 p (E 7 p - 1) = _; rw [srow_self])))
  | succ n ih =>
    intro at' E h M ha hn ht H
    refine WP.of (RUN.mono GQ _) (cuts := [63]) (n := 400) (v_X1_removeRow_63 _ _ _ _ _ _ _ _ _ ?_)
    refine ⟨ir (by omega) (by omega), ir (by omega) (by omega), fun c67 => ?_, fun c67 => ?_⟩
    · refine ⟨Bx.k M 6 (by decide) rfl, ?_⟩
      try rw [show hr h (b + 6) 2 = b + 8 from Bx.r M 6 2 8 (by decide)]
      refine Bx.al M 8 546 20 (by decide) rfl (by decide) rfl (fun el76 => ?_)
      refine ⟨ir (by omega) (by omega), ir (by omega) (by omega), fun c77 => ?_, fun c77 => ?_⟩
      · refine ⟨Bx.k M 6 (by decide) rfl, ?_⟩
        try rw [show hr h (b + 6) 2 = b + 8 from Bx.r M 6 2 8 (by decide)]
        refine ⟨Bx.k M 6 (by decide) rfl, ?_⟩
        try rw [show hr h (b + 6) 2 = b + 8 from Bx.r M 6 2 8 (by decide)]
        refine Bx.ld M 8 546 (by decide) rfl rfl (by omega) (by omega) (fun er => ?_)
        try rw [er]
        clear er
        refine Bx.as M 8 546 (by decide) rfl rfl (by omega) (by omega) (fun h96 M96 => ?_)
        refine ih _ _ _ M96 (by omega) (by omega) (by omega) ?_
        refine fun x h' e M => H x h' e (M.cast ?_)
        exact rm_step_q
      · exfalso; omega
    · exfalso; omega
theorem S_X1_removeRow_q {d b : Nat} {h0 h : PH} {E : Nat → Int → Int} {Q : Int → PH → Prop} {X : Nat → PH → Prop} {p i : Int} (M : Hx b h0 h E) (hR : E 6 0 = 13) (hp : 0 ≤ p ∧ p < 6) (hix : 0 ≤ i ∧ i < E 7 p) (hs : E 7 p ≤ 13) (H : ∀ (x : Int) h', x = (0) → Hx b h0 h' (c_rm 6 13 E p i) → Q x h') : RUN GQ (d + 1) m_X1_removeRow [pA (b + 6), pI p, pI i] h Q X := by
  rw [e_X1_removeRow]
  refine WP.of (RUN.mono GQ _) (cuts := [63]) (n := 400) (v_X1_removeRow_0 _ _ _ _ _ _ _ _ _ ?_)
  refine ⟨ir (by omega) (by omega), fun c1 => ?_, fun c1 => ?_⟩
  · first
    | (exfalso; omega)
    | (refine H _ _ ?_ ?_
       · first | rfl | omega
       · exact M)
  · refine ⟨Bx.k M 6 (by decide) rfl, ?_⟩
    try rw [show hr h (b + 6) 1 = b + 7 from Bx.r M 6 1 7 (by decide)]
    refine Bx.al M 7 6 20 (by decide) rfl (by decide) rfl (fun el9 => ?_)
    refine ⟨ir (by omega) (by omega), ir (by omega) (by omega), fun c10 => ?_, fun c10 => ?_⟩
    · refine ⟨ir (by omega) (by omega), fun c14 => ?_, fun c14 => ?_⟩
      · first
        | (exfalso; omega)
        | (refine H _ _ ?_ ?_
           · first | rfl | omega
           · exact M)
      · refine ⟨Bx.k M 6 (by decide) rfl, ?_⟩
        try rw [show hr h (b + 6) 1 = b + 7 from Bx.r M 6 1 7 (by decide)]
        refine Bx.ld M 7 6 (by decide) rfl rfl (by omega) (by omega) (fun er => ?_)
        try rw [er]
        clear er
        refine ⟨ir (by omega) (by omega), ir (by omega) (by omega), fun c24 => ?_, fun c24 => ?_⟩
        · refine ⟨Bx.k M 6 (by decide) rfl, ?_⟩
          try rw [show hi h (b + 6) 0 = _ from Bx.f0 M 6 (by decide)]
          try rw [hR]
          refine ⟨Bx.k M 6 (by decide) rfl, ?_⟩
          try rw [show hi h (b + 6) 0 = _ from Bx.f0 M 6 (by decide)]
          try rw [hR]
          refine ⟨Bx.k M 6 (by decide) rfl, ?_⟩
          try rw [show hr h (b + 6) 1 = b + 7 from Bx.r M 6 1 7 (by decide)]
          refine Bx.ld M 7 6 (by decide) rfl rfl (by omega) (by omega) (fun er => ?_)
          try rw [er]
          clear er
          refine L_X1_removeRow_q_63 hp ((7 * (E 7 p - i - 1)).toNat) _ _ _ M (by omega) (by omega) (by omega) ?_
          exact fun x h' e M => H x h' e (M.cast (by rw [c_rm, show (p * 13 + i + 1) * 7 - 7 = (p * 13 + i) * 7 by omega]))
        · first
          | (exfalso; omega)
          | (refine H _ _ ?_ ?_
             · first | rfl | omega
             · exact M)
    · first
      | (exfalso; omega)
      | (refine H _ _ ?_ ?_
         · first | rfl | omega
         · exact M)
theorem L_X1_indexOf_q_2 {d b : Nat} {h0 h : PH} {E : Nat → Int → Int} {Q : Int → PH → Prop} {X : Nat → PH → Prop} {p g : Int} (M : Hx b h0 h E) (hR : E 6 0 = 13) (hp : 0 ≤ p ∧ p < 6) (hs : 0 ≤ E 7 p ∧ E 7 p ≤ 13) (hg : InR g) (hI : ∀ i, 0 ≤ i → i < E 7 p → InR (E 8 ((p * 13 + i) * 7 + 0))) : ∀ (n : Nat) (i : Int), (0 ≤ i) → (i + n = E 7 p) → (∀ x : Int, x = ffi (fun i => E 8 ((p * 13 + i) * 7 + 0)) g n i → Q x h) → WP k_X1_indexOf [] (RUN GQ (d + 1)) 0 0 (d + 2) Q X 2 [some (pA (b + 6)), some (pI p), some (pI g), some (pI i)] [] h 0 0 := by
  intro n
  induction n with
  | zero =>
    intro i hix hn H
    refine WP.of (RUN.mono GQ _) (cuts := [2]) (n := 400) (v_X1_indexOf_2 _ _ _ _ _ _ _ ?_)
    refine ⟨Bx.k M 6 (by decide) rfl, ?_⟩
    refine S_X1_sizeOf_q M (by omega) (fun x5 e5 => ?_)
    subst e5
    refine ⟨ir (by omega) (by omega), ir (by omega) (by omega), fun c8 => ?_, fun c8 => ?_⟩
    · exfalso; omega
    · exact H _ rfl
  | succ n ih =>
    intro i hix hn H
    have hi2 := hI i hix (by omega)
    refine WP.of (RUN.mono GQ _) (cuts := [2]) (n := 400) (v_X1_indexOf_2 _ _ _ _ _ _ _ ?_)
    refine ⟨Bx.k M 6 (by decide) rfl, ?_⟩
    refine S_X1_sizeOf_q M (by omega) (fun x5 e5 => ?_)
    subst e5
    refine ⟨ir (by omega) (by omega), ir (by omega) (by omega), fun c8 => ?_, fun c8 => ?_⟩
    · refine ⟨Bx.k M 6 (by decide) rfl, ?_⟩
      refine S_X1_part_q M (by first | exact hR | exact R.r6 | exact R.r9) (by omega) (by omega) (by omega) (fun x15 e15 => ?_)
      subst e15
      refine ⟨ir (by omega) (by omega), ir (by omega) (by omega), fun c19 => ?_, fun c19 => ?_⟩
      · exact H _ (by rw [ffi, if_pos c19])
      · refine ih _ (by omega) (by omega) ?_
        rw [ffi, if_neg c19] at H
        exact H
    · exfalso; omega
theorem S_X1_indexOf_q {d b : Nat} {h0 h : PH} {E : Nat → Int → Int} {Q : Int → PH → Prop} {X : Nat → PH → Prop} {p g : Int} (M : Hx b h0 h E) (hR : E 6 0 = 13) (hp : 0 ≤ p ∧ p < 6) (hs : 0 ≤ E 7 p ∧ E 7 p ≤ 13) (hg : InR g) (hI : ∀ i, 0 ≤ i → i < E 7 p → InR (E 8 ((p * 13 + i) * 7 + 0))) (H : ∀ x : Int, x = (ffi (fun i => E 8 ((p * 13 + i) * 7 + 0)) g (E 7 p).toNat 0) → Q x h) : RUN GQ (d + 2) m_X1_indexOf [pA (b + 6), pI p, pI g] h Q X := by
  rw [e_X1_indexOf]
  refine WP.of (RUN.mono GQ _) (cuts := [2]) (n := 400) (v_X1_indexOf_0 _ _ _ _ _ _ _ ?_)
  refine L_X1_indexOf_q_2 M hR hp hs hg hI ((E 7 p).toNat) _ (by omega) (by omega) ?_
  exact H
theorem S_X1_sizeOf_s {d b : Nat} {h0 h : PH} {E : Nat → Int → Int} {Q : Int → PH → Prop} {X : Nat → PH → Prop} {p : Int} (M : Hx b h0 h E) (hp : 0 ≤ p ∧ p < 6) (H : ∀ x : Int, x = (E 10 p) → Q x h) : RUN GQ (d + 1) m_X1_sizeOf [pA (b + 9), pI p] h Q X := by
  rw [e_X1_sizeOf]
  refine WP.of (RUN.mono GQ _) (cuts := []) (n := 400) (v_X1_sizeOf_0 _ _ _ _ _ ?_)
  refine ⟨ir (by omega) (by omega), fun c1 => ?_, fun c1 => ?_⟩
  · first
    | (exfalso; omega)
    | (refine H _ ?_
       first | rfl | omega)
  · refine ⟨Bx.k M 9 (by decide) rfl, ?_⟩
    try rw [show hr h (b + 9) 1 = b + 10 from Bx.r M 9 1 10 (by decide)]
    refine Bx.al M 10 6 20 (by decide) rfl (by decide) rfl (fun el9 => ?_)
    refine ⟨ir (by omega) (by omega), ir (by omega) (by omega), fun c10 => ?_, fun c10 => ?_⟩
    · refine ⟨Bx.k M 9 (by decide) rfl, ?_⟩
      try rw [show hr h (b + 9) 1 = b + 10 from Bx.r M 9 1 10 (by decide)]
      refine Bx.ld M 10 6 (by decide) rfl rfl (by omega) (by omega) (fun er => ?_)
      try rw [er]
      clear er
      first
      | (exfalso; omega)
      | (refine H _ ?_
         first | rfl | omega)
    · first
      | (exfalso; omega)
      | (refine H _ ?_
         first | rfl | omega)
theorem S_X1_part_s {d b : Nat} {h0 h : PH} {E : Nat → Int → Int} {Q : Int → PH → Prop} {X : Nat → PH → Prop} {p i w : Int} (M : Hx b h0 h E) (hR : E 9 0 = 4) (hp : 0 ≤ p ∧ p < 6) (hix : 0 ≤ i ∧ i < 4) (hw : 0 ≤ w ∧ w < 7) (H : ∀ x : Int, x = (E 11 ((p * 4 + i) * 7 + w)) → Q x h) : RUN GQ (d + 1) m_X1_part [pA (b + 9), pI p, pI i, pI w] h Q X := by
  rw [e_X1_part]
  refine WP.of (RUN.mono GQ _) (cuts := []) (n := 400) (v_X1_part_0 _ _ _ _ _ _ _ _ ?_)
  refine ⟨Bx.k M 9 (by decide) rfl, ?_⟩
  try rw [show hi h (b + 9) 0 = _ from Bx.f0 M 9 (by decide)]
  try rw [hR]
  refine ⟨ir (by omega) (by omega), fun c17 => ?_, fun c17 => ?_⟩
  · first
    | (exfalso; omega)
    | (refine H _ ?_
       first | rfl | omega)
  · refine ⟨Bx.k M 9 (by decide) rfl, ?_⟩
    try rw [show hr h (b + 9) 2 = b + 11 from Bx.r M 9 2 11 (by decide)]
    refine Bx.al M 11 168 20 (by decide) rfl (by decide) rfl (fun el26 => ?_)
    refine ⟨ir (by omega) (by omega), ir (by omega) (by omega), fun c27 => ?_, fun c27 => ?_⟩
    · refine ⟨Bx.k M 9 (by decide) rfl, ?_⟩
      try rw [show hr h (b + 9) 2 = b + 11 from Bx.r M 9 2 11 (by decide)]
      refine Bx.ld M 11 168 (by decide) rfl rfl (by omega) (by omega) (fun er => ?_)
      try rw [er]
      clear er
      first
      | (exfalso; omega)
      | (refine H _ ?_
         first | rfl | omega)
    · first
      | (exfalso; omega)
      | (refine H _ ?_
         first | rfl | omega)
theorem S_X1_put_s {d b : Nat} {h0 h : PH} {E : Nat → Int → Int} {Q : Int → PH → Prop} {X : Nat → PH → Prop} {p i w v : Int} (M : Hx b h0 h E) (hR : E 9 0 = 4) (hp : 0 ≤ p ∧ p < 6) (hix : 0 ≤ i ∧ i < 4) (hw : 0 ≤ w ∧ w < 7) (H : ∀ (x : Int) h', x = (0) → Hx b h0 h' (dst E 11 ((p * 4 + i) * 7 + w) v) → Q x h') : RUN GQ (d + 1) m_X1_put [pA (b + 9), pI p, pI i, pI w, pI v] h Q X := by
  rw [e_X1_put]
  refine WP.of (RUN.mono GQ _) (cuts := []) (n := 400) (v_X1_put_0 _ _ _ _ _ _ _ _ _ ?_)
  refine ⟨Bx.k M 9 (by decide) rfl, ?_⟩
  try rw [show hi h (b + 9) 0 = _ from Bx.f0 M 9 (by decide)]
  try rw [hR]
  refine ⟨ir (by omega) (by omega), fun c17 => ?_, fun c17 => ?_⟩
  · first
    | (exfalso; omega)
    | (refine H _ _ ?_ ?_
       · first | rfl | omega
       · exact M)
  · refine ⟨Bx.k M 9 (by decide) rfl, ?_⟩
    try rw [show hr h (b + 9) 2 = b + 11 from Bx.r M 9 2 11 (by decide)]
    refine Bx.al M 11 168 20 (by decide) rfl (by decide) rfl (fun el26 => ?_)
    refine ⟨ir (by omega) (by omega), ir (by omega) (by omega), fun c27 => ?_, fun c27 => ?_⟩
    · refine ⟨Bx.k M 9 (by decide) rfl, ?_⟩
      try rw [show hr h (b + 9) 2 = b + 11 from Bx.r M 9 2 11 (by decide)]
      refine Bx.as M 11 168 (by decide) rfl rfl (by omega) (by omega) (fun h38 M38 => ?_)
      first
      | (exfalso; omega)
      | (refine H _ _ ?_ ?_
         · first | rfl | omega
         · exact M38)
    · first
      | (exfalso; omega)
      | (refine H _ _ ?_ ?_
         · first | rfl | omega
         · exact M)
theorem S_X1_addRow_s {d b : Nat} {h0 h : PH} {E : Nat → Int → Int} {Q : Int → PH → Prop} {X : Nat → PH → Prop} {p : Int} (M : Hx b h0 h E) (hR : E 9 0 = 4) (hp : 0 ≤ p ∧ p < 6) (hs : 0 ≤ E 10 p ∧ E 10 p < 4) (H : ∀ (x : Int) h', x = (E 10 p) → Hx b h0 h' (dst E 10 p (E 10 p + 1)) → Q x h') : RUN GQ (d + 1) m_X1_addRow [pA (b + 9), pI p] h Q X := by
  rw [e_X1_addRow]
  refine WP.of (RUN.mono GQ _) (cuts := []) (n := 400) (v_X1_addRow_0 _ _ _ _ _ ?_)
  refine ⟨ir (by omega) (by omega), fun c1 => ?_, fun c1 => ?_⟩
  · first
    | (exfalso; omega)
    | (refine H _ _ ?_ M
       rw [dst_eq]; omega)
  · refine ⟨Bx.k M 9 (by decide) rfl, ?_⟩
    try rw [show hr h (b + 9) 1 = b + 10 from Bx.r M 9 1 10 (by decide)]
    refine Bx.al M 10 6 20 (by decide) rfl (by decide) rfl (fun el9 => ?_)
    refine ⟨ir (by omega) (by omega), ir (by omega) (by omega), fun c10 => ?_, fun c10 => ?_⟩
    · refine ⟨Bx.k M 9 (by decide) rfl, ?_⟩
      try rw [show hr h (b + 9) 1 = b + 10 from Bx.r M 9 1 10 (by decide)]
      refine Bx.ld M 10 6 (by decide) rfl rfl (by omega) (by omega) (fun er => ?_)
      try rw [er]
      clear er
      refine ⟨Bx.k M 9 (by decide) rfl, ?_⟩
      try rw [show hi h (b + 9) 0 = _ from Bx.f0 M 9 (by decide)]
      try rw [hR]
      refine ⟨ir (by omega) (by omega), ir (by omega) (by omega), fun c23 => ?_, fun c23 => ?_⟩
      · refine ⟨Bx.k M 9 (by decide) rfl, ?_⟩
        try rw [show hr h (b + 9) 1 = b + 10 from Bx.r M 9 1 10 (by decide)]
        refine Bx.ld M 10 6 (by decide) rfl rfl (by omega) (by omega) (fun er => ?_)
        try rw [er]
        clear er
        refine Bx.as M 10 6 (by decide) rfl rfl (by omega) (by omega) (fun h37 M37 => ?_)
        refine ⟨Bx.k M37 9 (by decide) rfl, ?_⟩
        try rw [show hr h37 (b + 9) 1 = b + 10 from Bx.r M37 9 1 10 (by decide)]
        refine Bx.ld M37 10 6 (by decide) rfl rfl (by omega) (by omega) (fun er => ?_)
        try rw [er]
        clear er
        first
        | (exfalso; omega)
        | (refine H _ _ ?_ M37
           rw [dst_eq]; omega)
      · first
        | (exfalso; omega)
        | (refine H _ _ ?_ M
           rw [dst_eq]; omega)
    · first
      | (exfalso; omega)
      | (refine H _ _ ?_ M
         rw [dst_eq]; omega)
theorem L_X1_removeRow_s_63 {d b : Nat} {h0 : PH} {Q : Int → PH → Prop} {X : Nat → PH → Prop} {p i : Int} {fr t : Int} (hp : 0 ≤ p ∧ p < 6) : ∀ (n : Nat) (at' : Int) (E : Nat → Int → Int) (h : PH), (Hx b h0 h E) → (7 ≤ at') → (at' + n = t) → (t ≤ 168) → (∀ (x : Int) h', x = 0 → Hx b h0 h' (dst (srow E 11 (sfl 7 n (at' - 7) (E 11))) 10 p (E 10 p - 1)) → Q x h') → WP k_X1_removeRow [] (RUN GQ (d + 0)) 0 0 (d + 1) Q X 63 [some (pA (b + 9)), some (pI p), some (pI i), some (pI fr), some (pI t), some (pI at')] [] h 0 0 := by
  intro n
  induction n with
  | zero =>
    intro at' E h M ha hn ht H
    refine WP.of (RUN.mono GQ _) (cuts := [63]) (n := 400) (v_X1_removeRow_63 _ _ _ _ _ _ _ _ _ ?_)
    refine ⟨ir (by omega) (by omega), ir (by omega) (by omega), fun c67 => ?_, fun c67 => ?_⟩
    · exfalso; omega
    · refine ⟨Bx.k M 9 (by decide) rfl, ?_⟩
      try rw [show hr h (b + 9) 1 = b + 10 from Bx.r M 9 1 10 (by decide)]
      refine Bx.ld M 10 6 (by decide) rfl rfl (by omega) (by omega) (fun er => ?_)
      try rw [er]
      clear er
      refine Bx.as M 10 6 (by decide) rfl rfl (by omega) (by omega) (fun h112 M112 => ?_)
      first | (exfalso; omega) | (exact H _ _ rfl (M112.cast (by show dst (srow E 11 (E 11)) 10 p (E 10 p - 1) = _; rw [srow_self])))
  | succ n ih =>
    intro at' E h M ha hn ht H
    refine WP.of (RUN.mono GQ _) (cuts := [63]) (n := 400) (v_X1_removeRow_63 _ _ _ _ _ _ _ _ _ ?_)
    refine ⟨ir (by omega) (by omega), ir (by omega) (by omega), fun c67 => ?_, fun c67 => ?_⟩
    · refine ⟨Bx.k M 9 (by decide) rfl, ?_⟩
      try rw [show hr h (b + 9) 2 = b + 11 from Bx.r M 9 2 11 (by decide)]
      refine Bx.al M 11 168 20 (by decide) rfl (by decide) rfl (fun el76 => ?_)
      refine ⟨ir (by omega) (by omega), ir (by omega) (by omega), fun c77 => ?_, fun c77 => ?_⟩
      · refine ⟨Bx.k M 9 (by decide) rfl, ?_⟩
        try rw [show hr h (b + 9) 2 = b + 11 from Bx.r M 9 2 11 (by decide)]
        refine ⟨Bx.k M 9 (by decide) rfl, ?_⟩
        try rw [show hr h (b + 9) 2 = b + 11 from Bx.r M 9 2 11 (by decide)]
        refine Bx.ld M 11 168 (by decide) rfl rfl (by omega) (by omega) (fun er => ?_)
        try rw [er]
        clear er
        refine Bx.as M 11 168 (by decide) rfl rfl (by omega) (by omega) (fun h96 M96 => ?_)
        refine ih _ _ _ M96 (by omega) (by omega) (by omega) ?_
        refine fun x h' e M => H x h' e (M.cast ?_)
        exact rm_step_s
      · exfalso; omega
    · exfalso; omega
theorem S_X1_removeRow_s {d b : Nat} {h0 h : PH} {E : Nat → Int → Int} {Q : Int → PH → Prop} {X : Nat → PH → Prop} {p i : Int} (M : Hx b h0 h E) (hR : E 9 0 = 4) (hp : 0 ≤ p ∧ p < 6) (hix : 0 ≤ i ∧ i < E 10 p) (hs : E 10 p ≤ 4) (H : ∀ (x : Int) h', x = (0) → Hx b h0 h' (c_rm 9 4 E p i) → Q x h') : RUN GQ (d + 1) m_X1_removeRow [pA (b + 9), pI p, pI i] h Q X := by
  rw [e_X1_removeRow]
  refine WP.of (RUN.mono GQ _) (cuts := [63]) (n := 400) (v_X1_removeRow_0 _ _ _ _ _ _ _ _ _ ?_)
  refine ⟨ir (by omega) (by omega), fun c1 => ?_, fun c1 => ?_⟩
  · first
    | (exfalso; omega)
    | (refine H _ _ ?_ ?_
       · first | rfl | omega
       · exact M)
  · refine ⟨Bx.k M 9 (by decide) rfl, ?_⟩
    try rw [show hr h (b + 9) 1 = b + 10 from Bx.r M 9 1 10 (by decide)]
    refine Bx.al M 10 6 20 (by decide) rfl (by decide) rfl (fun el9 => ?_)
    refine ⟨ir (by omega) (by omega), ir (by omega) (by omega), fun c10 => ?_, fun c10 => ?_⟩
    · refine ⟨ir (by omega) (by omega), fun c14 => ?_, fun c14 => ?_⟩
      · first
        | (exfalso; omega)
        | (refine H _ _ ?_ ?_
           · first | rfl | omega
           · exact M)
      · refine ⟨Bx.k M 9 (by decide) rfl, ?_⟩
        try rw [show hr h (b + 9) 1 = b + 10 from Bx.r M 9 1 10 (by decide)]
        refine Bx.ld M 10 6 (by decide) rfl rfl (by omega) (by omega) (fun er => ?_)
        try rw [er]
        clear er
        refine ⟨ir (by omega) (by omega), ir (by omega) (by omega), fun c24 => ?_, fun c24 => ?_⟩
        · refine ⟨Bx.k M 9 (by decide) rfl, ?_⟩
          try rw [show hi h (b + 9) 0 = _ from Bx.f0 M 9 (by decide)]
          try rw [hR]
          refine ⟨Bx.k M 9 (by decide) rfl, ?_⟩
          try rw [show hi h (b + 9) 0 = _ from Bx.f0 M 9 (by decide)]
          try rw [hR]
          refine ⟨Bx.k M 9 (by decide) rfl, ?_⟩
          try rw [show hr h (b + 9) 1 = b + 10 from Bx.r M 9 1 10 (by decide)]
          refine Bx.ld M 10 6 (by decide) rfl rfl (by omega) (by omega) (fun er => ?_)
          try rw [er]
          clear er
          refine L_X1_removeRow_s_63 hp ((7 * (E 10 p - i - 1)).toNat) _ _ _ M (by omega) (by omega) (by omega) ?_
          exact fun x h' e M => H x h' e (M.cast (by rw [c_rm, show (p * 4 + i + 1) * 7 - 7 = (p * 4 + i) * 7 by omega]))
        · first
          | (exfalso; omega)
          | (refine H _ _ ?_ ?_
             · first | rfl | omega
             · exact M)
    · first
      | (exfalso; omega)
      | (refine H _ _ ?_ ?_
         · first | rfl | omega
         · exact M)
theorem L_X1_indexOf_s_2 {d b : Nat} {h0 h : PH} {E : Nat → Int → Int} {Q : Int → PH → Prop} {X : Nat → PH → Prop} {p g : Int} (M : Hx b h0 h E) (hR : E 9 0 = 4) (hp : 0 ≤ p ∧ p < 6) (hs : 0 ≤ E 10 p ∧ E 10 p ≤ 4) (hg : InR g) (hI : ∀ i, 0 ≤ i → i < E 10 p → InR (E 11 ((p * 4 + i) * 7 + 0))) : ∀ (n : Nat) (i : Int), (0 ≤ i) → (i + n = E 10 p) → (∀ x : Int, x = ffi (fun i => E 11 ((p * 4 + i) * 7 + 0)) g n i → Q x h) → WP k_X1_indexOf [] (RUN GQ (d + 1)) 0 0 (d + 2) Q X 2 [some (pA (b + 9)), some (pI p), some (pI g), some (pI i)] [] h 0 0 := by
  intro n
  induction n with
  | zero =>
    intro i hix hn H
    refine WP.of (RUN.mono GQ _) (cuts := [2]) (n := 400) (v_X1_indexOf_2 _ _ _ _ _ _ _ ?_)
    refine ⟨Bx.k M 9 (by decide) rfl, ?_⟩
    refine S_X1_sizeOf_s M (by omega) (fun x5 e5 => ?_)
    subst e5
    refine ⟨ir (by omega) (by omega), ir (by omega) (by omega), fun c8 => ?_, fun c8 => ?_⟩
    · exfalso; omega
    · exact H _ rfl
  | succ n ih =>
    intro i hix hn H
    have hi2 := hI i hix (by omega)
    refine WP.of (RUN.mono GQ _) (cuts := [2]) (n := 400) (v_X1_indexOf_2 _ _ _ _ _ _ _ ?_)
    refine ⟨Bx.k M 9 (by decide) rfl, ?_⟩
    refine S_X1_sizeOf_s M (by omega) (fun x5 e5 => ?_)
    subst e5
    refine ⟨ir (by omega) (by omega), ir (by omega) (by omega), fun c8 => ?_, fun c8 => ?_⟩
    · refine ⟨Bx.k M 9 (by decide) rfl, ?_⟩
      refine S_X1_part_s M (by first | exact hR | exact R.r6 | exact R.r9) (by omega) (by omega) (by omega) (fun x15 e15 => ?_)
      subst e15
      refine ⟨ir (by omega) (by omega), ir (by omega) (by omega), fun c19 => ?_, fun c19 => ?_⟩
      · exact H _ (by rw [ffi, if_pos c19])
      · refine ih _ (by omega) (by omega) ?_
        rw [ffi, if_neg c19] at H
        exact H
    · exfalso; omega
theorem S_X1_indexOf_s {d b : Nat} {h0 h : PH} {E : Nat → Int → Int} {Q : Int → PH → Prop} {X : Nat → PH → Prop} {p g : Int} (M : Hx b h0 h E) (hR : E 9 0 = 4) (hp : 0 ≤ p ∧ p < 6) (hs : 0 ≤ E 10 p ∧ E 10 p ≤ 4) (hg : InR g) (hI : ∀ i, 0 ≤ i → i < E 10 p → InR (E 11 ((p * 4 + i) * 7 + 0))) (H : ∀ x : Int, x = (ffi (fun i => E 11 ((p * 4 + i) * 7 + 0)) g (E 10 p).toNat 0) → Q x h) : RUN GQ (d + 2) m_X1_indexOf [pA (b + 9), pI p, pI g] h Q X := by
  rw [e_X1_indexOf]
  refine WP.of (RUN.mono GQ _) (cuts := [2]) (n := 400) (v_X1_indexOf_0 _ _ _ _ _ _ _ ?_)
  refine L_X1_indexOf_s_2 M hR hp hs hg hI ((E 10 p).toNat) _ (by omega) (by omega) ?_
  exact H
