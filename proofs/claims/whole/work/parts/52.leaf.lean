/-! the model's leaves (written by wip/whole/tools/eng.py) -/
section VCS
variable {call : PC} {mc ms fr : Nat} {Q : Int → PH → Prop} {X : Nat → PH → Prop} {K : PK}
set_option maxRecDepth 100000 in
theorem v_X7_in_0 (i0 : Int) (i1 : Int) (i2 : Int) (h : PH) (c s : Nat) (H : InR i0 ∧ InR i1 ∧ (i0 < i1 →
 ((0 : Int) = 0 ∨ (0 : Int) = 1) ∧ Q 0 h) ∧
(i1 ≤ i0 →
 InR i0 ∧ InR i2 ∧ (i2 < i0 →
 ((0 : Int) = 0 ∨ (0 : Int) = 1) ∧ Q 0 h) ∧
(i0 ≤ i2 →
 ((1 : Int) = 0 ∨ (1 : Int) = 1) ∧ Q 1 h))) : wpc k_X7_in [] call mc ms fr Q X [] K 400 (pto 0 k_X7_in) [some (pI i0), some (pI i1), some (pI i2)] [] h c s :=
  H
set_option maxRecDepth 100000 in
theorem v_X7_flag_0 (i0 : Int) (h : PH) (c s : Nat) (H : InR i0 ∧ (i0 = 0 →
 Q 0 h) ∧
(i0 ≠ 0 →
 Q 1 h)) : wpc k_X7_flag [] call mc ms fr Q X [] K 400 (pto 0 k_X7_flag) [some (pI i0)] [] h c s :=
  H
set_option maxRecDepth 100000 in
theorem v_X7_ofKind_0 (a0 : Nat) (i1 : Int) (i2 : Int) (h : PH) (c s : Nat) (H : hk h a0 = 8 ∧ (hk h (hr h a0 11) = 20 ∨ hk h (hr h a0 11) = 26) ∧ (0 ≤ ((13 + (3 * i1)) + i2) ∧ ((13 + (3 * i1)) + i2) < (hl h (hr h a0 11) : Int)) ∧ Q (hi h (hr h a0 11) (Int.toNat (((13 + (3 * i1)) + i2)))) h) : wpc k_X7_ofKind [] call mc ms fr Q X [] K 400 (pto 0 k_X7_ofKind) [some (pA a0), some (pI i1), some (pI i2)] [] h c s :=
  H
set_option maxRecDepth 100000 in
theorem v_X7_tiredOf_0 (a0 : Nat) (i1 : Int) (i2 : Int) (h : PH) (c s : Nat) (H : hk h a0 = 8 ∧ (hk h (hr h a0 11) = 20 ∨ hk h (hr h a0 11) = 26) ∧ (0 ≤ ((37 + (8 * i1)) + i2) ∧ ((37 + (8 * i1)) + i2) < (hl h (hr h a0 11) : Int)) ∧ Q (hi h (hr h a0 11) (Int.toNat (((37 + (8 * i1)) + i2)))) h) : wpc k_X7_tiredOf [] call mc ms fr Q X [] K 400 (pto 0 k_X7_tiredOf) [some (pA a0), some (pI i1), some (pI i2)] [] h c s :=
  H
set_option maxRecDepth 100000 in
theorem v_X7_urgencyOf_0 (a0 : Nat) (i1 : Int) (i2 : Int) (h : PH) (c s : Nat) (H : hk h a0 = 8 ∧ call m_X7_ofKind [pA a0, pI i2, pI 0] h (fun x1 h1 =>
 hk h1 a0 = 8 ∧ call m_X7_tiredOf [pA a0, pI i1, pI i2] h1 (fun x2 h2 =>
 InR 0 ∧ InR (x1 - x2) ∧ Q (if 0 ≤ (x1 - x2) then (x1 - x2) else 0) h2) X) X) : wpc k_X7_urgencyOf [] call mc ms fr Q X [] K 400 (pto 0 k_X7_urgencyOf) [some (pA a0), some (pI i1), some (pI i2)] [] h c s :=
  H
set_option maxRecDepth 100000 in
theorem v_X7_isMasked_0 (a0 : Nat) (i1 : Int) (i2 : Int) (h : PH) (c s : Nat) (H : hk h a0 = 8 ∧ (hk h (hr h a0 11) = 20 ∨ hk h (hr h a0 11) = 26) ∧ (0 ≤ (85 + i1) ∧ (85 + i1) < (hl h (hr h a0 11) : Int)) ∧ InR (band (bshr (hi h (hr h a0 11) (Int.toNat ((85 + i1)))) i2) 1) ∧ InR 1 ∧ ((band (bshr (hi h (hr h a0 11) (Int.toNat ((85 + i1)))) i2) 1) = 1 →
 ((1 : Int) = 0 ∨ (1 : Int) = 1) ∧ Q 1 h) ∧
((band (bshr (hi h (hr h a0 11) (Int.toNat ((85 + i1)))) i2) 1) ≠ 1 →
 ((0 : Int) = 0 ∨ (0 : Int) = 1) ∧ Q 0 h)) : wpc k_X7_isMasked [] call mc ms fr Q X [] K 400 (pto 0 k_X7_isMasked) [some (pA a0), some (pI i1), some (pI i2)] [] h c s :=
  H
set_option maxRecDepth 100000 in
theorem v_X7_inQueue_0 (a0 : Nat) (i1 : Int) (i2 : Int) (i3 : Int) (h : PH) (c s : Nat) (H : hk h a0 = 8 ∧ (hk h (hr h a0 11) = 20 ∨ hk h (hr h a0 11) = 26) ∧ (0 ≤ ((121 + (5 * ((13 * i1) + i2))) + i3) ∧ ((121 + (5 * ((13 * i1) + i2))) + i3) < (hl h (hr h a0 11) : Int)) ∧ Q (hi h (hr h a0 11) (Int.toNat (((121 + (5 * ((13 * i1) + i2))) + i3)))) h) : wpc k_X7_inQueue [] call mc ms fr Q X [] K 400 (pto 0 k_X7_inQueue) [some (pA a0), some (pI i1), some (pI i2), some (pI i3)] [] h c s :=
  H
set_option maxRecDepth 100000 in
theorem v_X7_onStack_0 (a0 : Nat) (i1 : Int) (i2 : Int) (i3 : Int) (h : PH) (c s : Nat) (H : hk h a0 = 8 ∧ (hk h (hr h a0 11) = 20 ∨ hk h (hr h a0 11) = 26) ∧ (0 ≤ ((517 + (6 * ((4 * i1) + i2))) + i3) ∧ ((517 + (6 * ((4 * i1) + i2))) + i3) < (hl h (hr h a0 11) : Int)) ∧ Q (hi h (hr h a0 11) (Int.toNat (((517 + (6 * ((4 * i1) + i2))) + i3)))) h) : wpc k_X7_onStack [] call mc ms fr Q X [] K 400 (pto 0 k_X7_onStack) [some (pA a0), some (pI i1), some (pI i2), some (pI i3)] [] h c s :=
  H
set_option maxRecDepth 100000 in
theorem v_X7_counts_0 (a0 : Nat) (i1 : Int) (i2 : Int) (h : PH) (c s : Nat) (H : hk h a0 = 8 ∧ (hk h (hr h a0 11) = 20 ∨ hk h (hr h a0 11) = 26) ∧ (0 ≤ ((91 + (4 * i1)) + i2) ∧ ((91 + (4 * i1)) + i2) < (hl h (hr h a0 11) : Int)) ∧ hk h (hr h a0 11) = 20 ∧ (0 ≤ ((91 + (4 * i1)) + i2) ∧ ((91 + (4 * i1)) + i2) < (hl h (hr h a0 11) : Int)) ∧ ∀ h1, h1 = hsi h (hr h a0 11) (Int.toNat (((91 + (4 * i1)) + i2))) ((hi h (hr h a0 11) (Int.toNat (((91 + (4 * i1)) + i2)))) + 1) →
 Q 0 h1) : wpc k_X7_counts [] call mc ms fr Q X [] K 400 (pto 0 k_X7_counts) [some (pA a0), some (pI i1), some (pI i2)] [] h c s :=
  H
set_option maxRecDepth 100000 in
theorem v_X7_ends_0 (a0 : Nat) (i1 : Int) (i2 : Int) (i3 : Int) (i4 : Int) (z5 : Option PV) (h : PH) (c s : Nat) (H : hk h a0 = 8 ∧ (hk h (hr h a0 11) = 20 ∨ hk h (hr h a0 11) = 26) ∧ (0 ≤ (2 : Int) ∧ (2 : Int) < (hl h (hr h a0 11) : Int)) ∧ InR (hi h (hr h a0 11) (Int.toNat (2 : Int))) ∧ InR 40 ∧ (40 : Int) ≠ 0 ∧ hk h a0 = 8 ∧ hk h (hr h a0 11) = 20 ∧ (0 ≤ (661 + (5 * (Int.tmod (hi h (hr h a0 11) (Int.toNat (2 : Int))) 40))) ∧ (661 + (5 * (Int.tmod (hi h (hr h a0 11) (Int.toNat (2 : Int))) 40))) < (hl h (hr h a0 11) : Int)) ∧ ∀ h1, h1 = hsi h (hr h a0 11) (Int.toNat ((661 + (5 * (Int.tmod (hi h (hr h a0 11) (Int.toNat (2 : Int))) 40))))) i1 →
 hk h1 a0 = 8 ∧ hk h1 (hr h1 a0 11) = 20 ∧ (0 ≤ ((661 + (5 * (Int.tmod (hi h (hr h a0 11) (Int.toNat (2 : Int))) 40))) + 1) ∧ ((661 + (5 * (Int.tmod (hi h (hr h a0 11) (Int.toNat (2 : Int))) 40))) + 1) < (hl h1 (hr h1 a0 11) : Int)) ∧ ∀ h2, h2 = hsi h1 (hr h1 a0 11) (Int.toNat (((661 + (5 * (Int.tmod (hi h (hr h a0 11) (Int.toNat (2 : Int))) 40))) + 1))) i2 →
 hk h2 a0 = 8 ∧ hk h2 a0 = 8 ∧ (hk h2 (hr h2 a0 11) = 20 ∨ hk h2 (hr h2 a0 11) = 26) ∧ (0 ≤ (0 : Int) ∧ (0 : Int) < (hl h2 (hr h2 a0 11) : Int)) ∧ hk h2 (hr h2 a0 11) = 20 ∧ (0 ≤ ((661 + (5 * (Int.tmod (hi h (hr h a0 11) (Int.toNat (2 : Int))) 40))) + 2) ∧ ((661 + (5 * (Int.tmod (hi h (hr h a0 11) (Int.toNat (2 : Int))) 40))) + 2) < (hl h2 (hr h2 a0 11) : Int)) ∧ ∀ h3, h3 = hsi h2 (hr h2 a0 11) (Int.toNat (((661 + (5 * (Int.tmod (hi h (hr h a0 11) (Int.toNat (2 : Int))) 40))) + 2))) (hi h2 (hr h2 a0 11) (Int.toNat (0 : Int))) →
 hk h3 a0 = 8 ∧ hk h3 (hr h3 a0 11) = 20 ∧ (0 ≤ ((661 + (5 * (Int.tmod (hi h (hr h a0 11) (Int.toNat (2 : Int))) 40))) + 3) ∧ ((661 + (5 * (Int.tmod (hi h (hr h a0 11) (Int.toNat (2 : Int))) 40))) + 3) < (hl h3 (hr h3 a0 11) : Int)) ∧ ∀ h4, h4 = hsi h3 (hr h3 a0 11) (Int.toNat (((661 + (5 * (Int.tmod (hi h (hr h a0 11) (Int.toNat (2 : Int))) 40))) + 3))) i3 →
 hk h4 a0 = 8 ∧ hk h4 (hr h4 a0 11) = 20 ∧ (0 ≤ ((661 + (5 * (Int.tmod (hi h (hr h a0 11) (Int.toNat (2 : Int))) 40))) + 4) ∧ ((661 + (5 * (Int.tmod (hi h (hr h a0 11) (Int.toNat (2 : Int))) 40))) + 4) < (hl h4 (hr h4 a0 11) : Int)) ∧ ∀ h5, h5 = hsi h4 (hr h4 a0 11) (Int.toNat (((661 + (5 * (Int.tmod (hi h (hr h a0 11) (Int.toNat (2 : Int))) 40))) + 4))) i4 →
 hk h5 a0 = 8 ∧ (hk h5 (hr h5 a0 11) = 20 ∨ hk h5 (hr h5 a0 11) = 26) ∧ (0 ≤ (2 : Int) ∧ (2 : Int) < (hl h5 (hr h5 a0 11) : Int)) ∧ hk h5 (hr h5 a0 11) = 20 ∧ (0 ≤ (2 : Int) ∧ (2 : Int) < (hl h5 (hr h5 a0 11) : Int)) ∧ ∀ h6, h6 = hsi h5 (hr h5 a0 11) (Int.toNat (2 : Int)) ((hi h5 (hr h5 a0 11) (Int.toNat (2 : Int))) + 1) →
 hk h6 a0 = 8 ∧ (hk h6 (hr h6 a0 11) = 20 ∨ hk h6 (hr h6 a0 11) = 26) ∧ (0 ≤ (4 + i2) ∧ (4 + i2) < (hl h6 (hr h6 a0 11) : Int)) ∧ hk h6 (hr h6 a0 11) = 20 ∧ (0 ≤ (4 + i2) ∧ (4 + i2) < (hl h6 (hr h6 a0 11) : Int)) ∧ ∀ h7, h7 = hsi h6 (hr h6 a0 11) (Int.toNat ((4 + i2))) ((hi h6 (hr h6 a0 11) (Int.toNat ((4 + i2)))) + 1) →
 InR i2 ∧ (i2 = 0 →
 hk h7 a0 = 8 ∧ call m_X7_counts [pA a0, pI i3, pI 2] h7 (fun _ h8 =>
 hk h8 a0 = 8 ∧ InR i1 ∧ InR (hi h8 a0 43) ∧ (i1 = (hi h8 a0 43) →
 hk h8 a0 = 8 ∧ ∀ h9, h9 = hsi h8 a0 44 i2 →
 Q 0 h9) ∧
(i1 ≠ (hi h8 a0 43) →
 hk h8 a0 = 8 ∧ hk h8 a0 = 8 ∧ ∀ h10, h10 = hsi h8 a0 44 (hi h8 a0 44) →
 Q 0 h10)) X) ∧
(i2 ≠ 0 →
 hk h7 a0 = 8 ∧ call m_X7_counts [pA a0, pI i3, pI 3] h7 (fun _ h11 =>
 hk h11 a0 = 8 ∧ InR i1 ∧ InR (hi h11 a0 43) ∧ (i1 = (hi h11 a0 43) →
 hk h11 a0 = 8 ∧ ∀ h12, h12 = hsi h11 a0 44 i2 →
 Q 0 h12) ∧
(i1 ≠ (hi h11 a0 43) →
 hk h11 a0 = 8 ∧ hk h11 a0 = 8 ∧ ∀ h13, h13 = hsi h11 a0 44 (hi h11 a0 44) →
 Q 0 h13)) X)) : wpc k_X7_ends [] call mc ms fr Q X [] K 400 (pto 0 k_X7_ends) [some (pA a0), some (pI i1), some (pI i2), some (pI i3), some (pI i4), z5] [] h c s :=
  H
end VCS
theorem S_X7_in {d : Nat} {h : PH} {Q : Int → PH → Prop} {X : Nat → PH → Prop} {v l u : Int}  (hv : InR v) (hl0 : InR l) (hu : InR u) (H : ∀ x : Int, x = (if l ≤ v ∧ v ≤ u then 1 else 0) → Q x h) : RUN GQ (d + 1) m_X7_in [pI v, pI l, pI u] h Q X := by
  rw [e_X7_in]
  refine WP.of (RUN.mono GQ _) (cuts := []) (n := 400) (v_X7_in_0 _ _ _ _ _ _ ?_)
  refine ⟨ir (by omega) (by omega), ir (by omega) (by omega), fun c2 => ?_, fun c2 => ?_⟩
  · refine ⟨(by omega), ?_⟩
    refine H _ ?_
    split <;> first | rfl | (exfalso; omega)
  · refine ⟨ir (by omega) (by omega), ir (by omega) (by omega), fun c7 => ?_, fun c7 => ?_⟩
    · refine ⟨(by omega), ?_⟩
      refine H _ ?_
      split <;> first | rfl | (exfalso; omega)
    · refine ⟨(by omega), ?_⟩
      refine H _ ?_
      split <;> first | rfl | (exfalso; omega)
theorem S_X7_flag {d : Nat} {h : PH} {Q : Int → PH → Prop} {X : Nat → PH → Prop} {i : Int}  (hi0 : i = 0 ∨ i = 1) (H : ∀ x : Int, x = (i) → Q x h) : RUN GQ (d + 1) m_X7_flag [pI i] h Q X := by
  rw [e_X7_flag]
  refine WP.of (RUN.mono GQ _) (cuts := []) (n := 400) (v_X7_flag_0 _ _ _ _ ?_)
  refine ⟨ir (by omega) (by omega), fun c1 => ?_, fun c1 => ?_⟩
  · refine H _ ?_
    omega
  · refine H _ ?_
    omega
theorem S_X7_ofKind {d b : Nat} {h0 h : PH} {D : Nat → Int → Int} {s : Int → Int} {Q : Int → PH → Prop} {X : Nat → PH → Prop} {k w : Int} (M : Md b h0 h D s) (hk : 0 ≤ k ∧ k < 8) (hw : 0 ≤ w ∧ w < 3) (H : ∀ x : Int, x = (kn s k w) → Q x h) : RUN GQ (d + 1) m_X7_ofKind [pA b, pI k, pI w] h Q X := by
  rw [e_X7_ofKind]
  refine WP.of (RUN.mono GQ _) (cuts := []) (n := 400) (v_X7_ofKind_0 _ _ _ _ _ _ ?_)
  refine ⟨M.k0, ?_⟩
  try rw [M.r11]
  refine M.ld6 (by omega) (by omega) (fun er => ?_)
  try rw [er]
  clear er
  refine H _ ?_
  first | rfl | omega
theorem S_X7_tiredOf {d b : Nat} {h0 h : PH} {D : Nat → Int → Int} {s : Int → Int} {Q : Int → PH → Prop} {X : Nat → PH → Prop} {p k : Int} (M : Md b h0 h D s) (hp : 0 ≤ p ∧ p < 6) (hk : 0 ≤ k ∧ k < 8) (H : ∀ x : Int, x = (td s p k) → Q x h) : RUN GQ (d + 1) m_X7_tiredOf [pA b, pI p, pI k] h Q X := by
  rw [e_X7_tiredOf]
  refine WP.of (RUN.mono GQ _) (cuts := []) (n := 400) (v_X7_tiredOf_0 _ _ _ _ _ _ ?_)
  refine ⟨M.k0, ?_⟩
  try rw [M.r11]
  refine M.ld6 (by omega) (by omega) (fun er => ?_)
  try rw [er]
  clear er
  refine H _ ?_
  first | rfl | omega
theorem S_X7_urgencyOf {d b : Nat} {h0 h : PH} {D : Nat → Int → Int} {s : Int → Int} {Q : Int → PH → Prop} {X : Nat → PH → Prop} {p k : Int} (M : Md b h0 h D s) (hp : 0 ≤ p ∧ p < 6) (hk : 0 ≤ k ∧ k < 8) (h1 : InR (kn s k 0 - td s p k)) (H : ∀ x : Int, x = (ur s p k) → Q x h) : RUN GQ (d + 2) m_X7_urgencyOf [pA b, pI p, pI k] h Q X := by
  rw [e_X7_urgencyOf]
  refine WP.of (RUN.mono GQ _) (cuts := []) (n := 400) (v_X7_urgencyOf_0 _ _ _ _ _ _ ?_)
  refine ⟨M.k0, ?_⟩
  refine S_X7_ofKind M (by first | omega | exact h1.1 | exact h1.2) (by first | omega | exact h1.1 | exact h1.2) (fun x4 e4 => ?_)
  subst e4
  refine ⟨M.k0, ?_⟩
  refine S_X7_tiredOf M (by first | omega | exact h1.1 | exact h1.2) (by first | omega | exact h1.1 | exact h1.2) (fun x10 e10 => ?_)
  subst e10
  refine ⟨ir (by first | omega | exact h1.1 | exact h1.2) (by first | omega | exact h1.1 | exact h1.2), ir (by first | omega | exact h1.1 | exact h1.2) (by first | omega | exact h1.1 | exact h1.2), ?_⟩
  refine H _ ?_
  first | rfl | omega
theorem S_X7_isMasked {d b : Nat} {h0 h : PH} {D : Nat → Int → Int} {s : Int → Int} {Q : Int → PH → Prop} {X : Nat → PH → Prop} {p k : Int} (M : Md b h0 h D s) (hp : 0 ≤ p ∧ p < 6) (H : ∀ x : Int, x = (msk s p k) → Q x h) : RUN GQ (d + 1) m_X7_isMasked [pA b, pI p, pI k] h Q X := by
  have hb1 := band_InR (bshr (s (85 + p)) k) 1
  rw [e_X7_isMasked]
  refine WP.of (RUN.mono GQ _) (cuts := []) (n := 400) (v_X7_isMasked_0 _ _ _ _ _ _ ?_)
  refine ⟨M.k0, ?_⟩
  try rw [M.r11]
  refine M.ld6 (by first | omega | exact hb1.1 | exact hb1.2) (by first | omega | exact hb1.1 | exact hb1.2) (fun er => ?_)
  try rw [er]
  clear er
  refine ⟨ir (by first | omega | exact hb1.1 | exact hb1.2) (by first | omega | exact hb1.1 | exact hb1.2), ir (by first | omega | exact hb1.1 | exact hb1.2) (by first | omega | exact hb1.1 | exact hb1.2), fun c14 => ?_, fun c14 => ?_⟩
  · refine ⟨(by omega), ?_⟩
    refine H _ ?_
    first | rfl | (unfold msk; (repeat' split) <;> first | rfl | assumption | (exfalso; omega) | omega)
  · refine ⟨(by omega), ?_⟩
    refine H _ ?_
    first | rfl | (unfold msk; (repeat' split) <;> first | rfl | assumption | (exfalso; omega) | omega)
theorem S_X7_inQueue {d b : Nat} {h0 h : PH} {D : Nat → Int → Int} {s : Int → Int} {Q : Int → PH → Prop} {X : Nat → PH → Prop} {p k w : Int} (M : Md b h0 h D s) (hp : 0 ≤ p ∧ p < 6) (hk : 0 ≤ k ∧ k < 13) (hw : 0 ≤ w ∧ w < 5) (H : ∀ x : Int, x = (qv s p k w) → Q x h) : RUN GQ (d + 1) m_X7_inQueue [pA b, pI p, pI k, pI w] h Q X := by
  rw [e_X7_inQueue]
  refine WP.of (RUN.mono GQ _) (cuts := []) (n := 400) (v_X7_inQueue_0 _ _ _ _ _ _ _ ?_)
  refine ⟨M.k0, ?_⟩
  try rw [M.r11]
  refine M.ld6 (by omega) (by omega) (fun er => ?_)
  try rw [er]
  clear er
  refine H _ ?_
  first | rfl | omega
theorem S_X7_onStack {d b : Nat} {h0 h : PH} {D : Nat → Int → Int} {s : Int → Int} {Q : Int → PH → Prop} {X : Nat → PH → Prop} {p k w : Int} (M : Md b h0 h D s) (hp : 0 ≤ p ∧ p < 6) (hk : 0 ≤ k ∧ k < 4) (hw : 0 ≤ w ∧ w < 6) (H : ∀ x : Int, x = (sv s p k w) → Q x h) : RUN GQ (d + 1) m_X7_onStack [pA b, pI p, pI k, pI w] h Q X := by
  rw [e_X7_onStack]
  refine WP.of (RUN.mono GQ _) (cuts := []) (n := 400) (v_X7_onStack_0 _ _ _ _ _ _ _ ?_)
  refine ⟨M.k0, ?_⟩
  try rw [M.r11]
  refine M.ld6 (by omega) (by omega) (fun er => ?_)
  try rw [er]
  clear er
  refine H _ ?_
  first | rfl | omega
theorem S_X7_counts {d b : Nat} {h0 h : PH} {D : Nat → Int → Int} {s : Int → Int} {Q : Int → PH → Prop} {X : Nat → PH → Prop} {p w : Int} (M : Md b h0 h D s) (hp : 0 ≤ p ∧ p < 6) (hw : 0 ≤ w ∧ w < 4) (H : ∀ (x : Int) h', x = (0) → Md b h0 h' D (e_cnt s p w) → Q x h') : RUN GQ (d + 1) m_X7_counts [pA b, pI p, pI w] h Q X := by
  rw [e_X7_counts]
  refine WP.of (RUN.mono GQ _) (cuts := []) (n := 400) (v_X7_counts_0 _ _ _ _ _ _ ?_)
  refine ⟨M.k0, ?_⟩
  try rw [M.r11]
  refine M.ld6 (by omega) (by omega) (fun er => ?_)
  try rw [er]
  clear er
  refine M.as6 (by omega) (by omega) (fun h16 M16 => ?_)
  refine H _ _ ?_ ?_
  · first | rfl | omega
  · exact M16
theorem S_X7_ends {d b : Nat} {h0 h : PH} {D : Nat → Int → Int} {s : Int → Int} {Q : Int → PH → Prop} {X : Nat → PH → Prop} {g t p k : Int} (M : Md b h0 h D s) (ht : 0 ≤ t ∧ t < 6) (hp : 0 ≤ p ∧ p < 6) (hE : 0 ≤ s 2 ∧ s 2 ≤ 2000000000) (hg : InR g) (hw : InR (s (-1))) (H : ∀ (x : Int) h', x = (0) → Md b h0 h' D (e_ends s g t p k) → Q x h') : RUN GQ (d + 2) m_X7_ends [pA b, pI g, pI t, pI p, pI k] h Q X := by
  have h40 := tm40 hE.1
  rw [e_X7_ends]
  refine WP.of (RUN.mono GQ _) (cuts := []) (n := 400) (v_X7_ends_0 _ _ _ _ _ _ _ _ _ ?_)
  refine ⟨M.k0, ?_⟩
  try rw [M.r11]
  refine M.ld6 (by omega) (by omega) (fun er => ?_)
  try rw [er]
  clear er
  refine ⟨ir (by omega) (by omega), ir (by omega) (by omega), (by omega), ?_⟩
  refine ⟨M.k0, ?_⟩
  try rw [M.r11]
  refine M.as6 (by omega) (by omega) (fun h24 M24 => ?_)
  refine ⟨M24.k0, ?_⟩
  try rw [M24.r11]
  refine M24.as6 (by omega) (by omega) (fun h34 M34 => ?_)
  refine ⟨M34.k0, ?_⟩
  try rw [M34.r11]
  refine ⟨M34.k0, ?_⟩
  try rw [M34.r11]
  refine M34.ld6 (by omega) (by omega) (fun er => ?_)
  try rw [er]
  clear er
  refine M34.as6 (by omega) (by omega) (fun h49 M49 => ?_)
  refine ⟨M49.k0, ?_⟩
  try rw [M49.r11]
  refine M49.as6 (by omega) (by omega) (fun h59 M59 => ?_)
  refine ⟨M59.k0, ?_⟩
  try rw [M59.r11]
  refine M59.as6 (by omega) (by omega) (fun h70 M70 => ?_)
  refine ⟨M70.k0, ?_⟩
  try rw [M70.r11]
  refine M70.ld6 (by omega) (by omega) (fun er => ?_)
  try rw [er]
  clear er
  refine M70.as6 (by omega) (by omega) (fun h80 M80 => ?_)
  refine ⟨M80.k0, ?_⟩
  try rw [M80.r11]
  refine M80.ld6 (by omega) (by omega) (fun er => ?_)
  try rw [er]
  clear er
  refine M80.as6 (by omega) (by omega) (fun h92 M92 => ?_)
  refine ⟨ir (by omega) (by omega), fun c96 => ?_, fun c96 => ?_⟩
  · refine ⟨M92.k0, ?_⟩
    refine S_X7_counts M92 (by omega) (by omega) (fun x104 h104 e104 M104 => ?_)
    subst e104
    refine ⟨M104.k0, ?_⟩
    try rw [M104.f43]
    refine ⟨(by first | exact hg | (unfold e_cnt; (repeat rw [ups_ne (by omega)]); exact hw)), (by first | exact hg | (unfold e_cnt; (repeat rw [ups_ne (by omega)]); exact hw)), fun c113 => ?_, fun c113 => ?_⟩
    · refine M104.p44 (fun h124 M124 => ?_)
      refine H _ _ ?_ ?_
      · first | rfl | (unfold e_ends e_end0; (repeat' split) <;> first | rfl | assumption | (exfalso; omega) | omega)
      · first | exact M124 | (simp only [e_ends, e_end0]; (repeat' split) <;> first | exact M124 | (exfalso; omega))
    · refine ⟨M104.k0, ?_⟩
      try rw [M104.f44]
      refine M104.p44 (fun h124 M124 => ?_)
      refine H _ _ ?_ ?_
      · first | rfl | (unfold e_ends e_end0; (repeat' split) <;> first | rfl | assumption | (exfalso; omega) | omega)
      · first | exact M124 | (simp only [e_ends, e_end0]; (repeat' split) <;> first | exact M124 | (exfalso; omega))
  · refine ⟨M92.k0, ?_⟩
    refine S_X7_counts M92 (by omega) (by omega) (fun x104 h104 e104 M104 => ?_)
    subst e104
    refine ⟨M104.k0, ?_⟩
    try rw [M104.f43]
    refine ⟨(by first | exact hg | (unfold e_cnt; (repeat rw [ups_ne (by omega)]); exact hw)), (by first | exact hg | (unfold e_cnt; (repeat rw [ups_ne (by omega)]); exact hw)), fun c113 => ?_, fun c113 => ?_⟩
    · refine M104.p44 (fun h124 M124 => ?_)
      refine H _ _ ?_ ?_
      · first | rfl | (unfold e_ends e_end0; (repeat' split) <;> first | rfl | assumption | (exfalso; omega) | omega)
      · first | exact M124 | (simp only [e_ends, e_end0]; (repeat' split) <;> first | exact M124 | (exfalso; omega))
    · refine ⟨M104.k0, ?_⟩
      try rw [M104.f44]
      refine M104.p44 (fun h124 M124 => ?_)
      refine H _ _ ?_ ?_
      · first | rfl | (unfold e_ends e_end0; (repeat' split) <;> first | rfl | assumption | (exfalso; omega) | omega)
      · first | exact M124 | (simp only [e_ends, e_end0]; (repeat' split) <;> first | exact M124 | (exfalso; omega))
