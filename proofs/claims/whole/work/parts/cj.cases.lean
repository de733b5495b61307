/-! the law's cases: append, find, mask -/
section LJV
variable {call : PC} {mc ms fr : Nat} {Q : Int → PH → Prop} {X : Nat → PH → Prop} {K : PK}
set_option maxRecDepth 100000 in
theorem v_L_law_424 (a0 : Nat) (a1 : Nat) (a2 : Nat) (a3 : Nat) (a4 : Nat) (i5 : Int) (z6 : Option PV) (z7 : Option PV) (z8 : Option PV) (h : PH) (c s : Nat) (H : (hk h a0 = 20 ∨ hk h a0 = 26) ∧ (0 ≤ (i5 + 1) ∧ (i5 + 1) < (hl h a0 : Int)) ∧ InR (hi h a0 (Int.toNat ((i5 + 1)))) ∧ ((hi h a0 (Int.toNat ((i5 + 1)))) = 0 →
 K 439 [some (pA a0), some (pA a1), some (pA a2), some (pA a3), some (pA a4), some (pI i5), z6, z7, z8] [pI 0, pA a1] h c s) ∧
((hi h a0 (Int.toNat ((i5 + 1)))) ≠ 0 →
 K 439 [some (pA a0), some (pA a1), some (pA a2), some (pA a3), some (pA a4), some (pI i5), z6, z7, z8] [pI 1, pA a1] h c s)) : wpc k_L_law [] call mc ms fr Q X [28, 424, 439, 466] K 400 (pto 424 k_L_law) [some (pA a0), some (pA a1), some (pA a2), some (pA a3), some (pA a4), some (pI i5), z6, z7, z8] [] h c s :=
  H

set_option maxRecDepth 100000 in
theorem v_L_law_439 (a0 : Nat) (a1 : Nat) (a2 : Nat) (a3 : Nat) (a4 : Nat) (i5 : Int) (z6 : Option PV) (z7 : Option PV) (z8 : Option PV) (s0 : Int) (s1 : Nat) (h : PH) (c s : Nat) (H : (hk h a0 = 20 ∨ hk h a0 = 26) ∧ (0 ≤ (i5 + 2) ∧ (i5 + 2) < (hl h a0 : Int)) ∧ (c + 24 ≤ mc ∧ s + 1700 ≤ ms) ∧ call m_L_find [pA s1, pI s0, pI (hi h a0 (Int.toNat ((i5 + 2)))), pA a3] h (fun x1 h1 =>
 (hk h1 a0 = 20 ∨ hk h1 a0 = 26) ∧ (0 ≤ (i5 + 1) ∧ (i5 + 1) < (hl h1 a0 : Int)) ∧ InR (hi h1 a0 (Int.toNat ((i5 + 1)))) ∧ ((hi h1 a0 (Int.toNat ((i5 + 1)))) = 0 →
 K 466 [some (pA a0), some (pA a1), some (pA a2), some (pA a3), some (pA a4), some (pI i5), some (pI x1), z7, z8] [pI 0, pA a2] h1 (c + 24) (s + 1700)) ∧
((hi h1 a0 (Int.toNat ((i5 + 1)))) ≠ 0 →
 K 466 [some (pA a0), some (pA a1), some (pA a2), some (pA a3), some (pA a4), some (pI i5), some (pI x1), z7, z8] [pI 1, pA a2] h1 (c + 24) (s + 1700))) X) : wpc k_L_law [] call mc ms fr Q X [28, 424, 439, 466] K 400 (pto 439 k_L_law) [some (pA a0), some (pA a1), some (pA a2), some (pA a3), some (pA a4), some (pI i5), z6, z7, z8] [pI s0, pA s1] h c s :=
  H

set_option maxRecDepth 100000 in
theorem v_L_law_466 (a0 : Nat) (a1 : Nat) (a2 : Nat) (a3 : Nat) (a4 : Nat) (i5 : Int) (i6 : Int) (z7 : Option PV) (z8 : Option PV) (s0 : Int) (s1 : Nat) (h : PH) (c s : Nat) (H : (hk h a0 = 20 ∨ hk h a0 = 26) ∧ (0 ≤ (i5 + 2) ∧ (i5 + 2) < (hl h a0 : Int)) ∧ hk h s1 = 8 ∧ call m_X7_find [pA s1, pI s0, pI (hi h a0 (Int.toNat ((i5 + 2))))] h (fun x1 h1 =>
 hk h1 a2 = 8 ∧ call m_X7_thrown [pA a2] h1 (fun x2 h2 =>
 InR x2 ∧ InR i6 ∧ (x2 = i6 →
 InR i6 ∧ (i6 = 0 →
 hk h2 a3 = 23 ∧ (0 ≤ (0 : Int) ∧ (0 : Int) < (hl h2 a3 : Int)) ∧ InR x1 ∧ InL (hi h2 a3 (Int.toNat (0 : Int))) ∧ InL x1 ∧ InR (if (hi h2 a3 (Int.toNat (0 : Int))) < x1 then -1 else if (hi h2 a3 (Int.toNat (0 : Int))) = x1 then 0 else 1) ∧ ((if (hi h2 a3 (Int.toNat (0 : Int))) < x1 then -1 else if (hi h2 a3 (Int.toNat (0 : Int))) = x1 then 0 else 1) = 0 →
 K 28 [some (pA a0), some (pA a1), some (pA a2), some (pA a3), some (pA a4), some (pI (i5 + 6)), some (pI i6), some (pI x1), z8] [] h2 c s) ∧
((if (hi h2 a3 (Int.toNat (0 : Int))) < x1 then -1 else if (hi h2 a3 (Int.toNat (0 : Int))) = x1 then 0 else 1) ≠ 0 →
 ((0 : Int) = 0 ∨ (0 : Int) = 1) ∧ Q 0 h2)) ∧
(i6 ≠ 0 →
 K 28 [some (pA a0), some (pA a1), some (pA a2), some (pA a3), some (pA a4), some (pI (i5 + 6)), some (pI i6), some (pI x1), z8] [] h2 c s)) ∧
(x2 ≠ i6 →
 ((0 : Int) = 0 ∨ (0 : Int) = 1) ∧ Q 0 h2)) X) X) : wpc k_L_law [] call mc ms fr Q X [28, 424, 439, 466] K 400 (pto 466 k_L_law) [some (pA a0), some (pA a1), some (pA a2), some (pA a3), some (pA a4), some (pI i5), some (pI i6), z7, z8] [pI s0, pA s1] h c s :=
  H

set_option maxRecDepth 100000 in
theorem v_L_law_2531 (a0 : Nat) (a1 : Nat) (a2 : Nat) (a3 : Nat) (a4 : Nat) (i5 : Int) (z6 : Option PV) (z7 : Option PV) (z8 : Option PV) (h : PH) (c s : Nat) (H : (hk h a0 = 20 ∨ hk h a0 = 26) ∧ (0 ≤ (i5 + 1) ∧ (i5 + 1) < (hl h a0 : Int)) ∧ (hk h a0 = 20 ∨ hk h a0 = 26) ∧ (0 ≤ (i5 + 2) ∧ (i5 + 2) < (hl h a0 : Int)) ∧ (hk h a0 = 20 ∨ hk h a0 = 26) ∧ (0 ≤ (i5 + 3) ∧ (i5 + 3) < (hl h a0 : Int)) ∧ InR (hi h a0 (Int.toNat ((i5 + 3)))) ∧ ((hi h a0 (Int.toNat ((i5 + 3)))) = 0 →
 K 2558 [some (pA a0), some (pA a1), some (pA a2), some (pA a3), some (pA a4), some (pI i5), z6, z7, z8] [pI 0, pI (hi h a0 (Int.toNat ((i5 + 2)))), pI (hi h a0 (Int.toNat ((i5 + 1)))), pA a1] h c s) ∧
((hi h a0 (Int.toNat ((i5 + 3)))) ≠ 0 →
 K 2558 [some (pA a0), some (pA a1), some (pA a2), some (pA a3), some (pA a4), some (pI i5), z6, z7, z8] [pI 1, pI (hi h a0 (Int.toNat ((i5 + 2)))), pI (hi h a0 (Int.toNat ((i5 + 1)))), pA a1] h c s)) : wpc k_L_law [] call mc ms fr Q X [28, 2531, 2558, 2591] K 400 (pto 2531 k_L_law) [some (pA a0), some (pA a1), some (pA a2), some (pA a3), some (pA a4), some (pI i5), z6, z7, z8] [] h c s :=
  H

set_option maxRecDepth 100000 in
theorem v_L_law_2558 (a0 : Nat) (a1 : Nat) (a2 : Nat) (a3 : Nat) (a4 : Nat) (i5 : Int) (z6 : Option PV) (z7 : Option PV) (z8 : Option PV) (s0 : Int) (s1 : Int) (s2 : Int) (s3 : Nat) (h : PH) (c s : Nat) (H : (c + 24 ≤ mc ∧ s + 1700 ≤ ms) ∧ call m_L_mask [pA s3, pI s2, pI s1, pI s0, pA a3] h (fun x1 h1 =>
 (hk h1 a0 = 20 ∨ hk h1 a0 = 26) ∧ (0 ≤ (i5 + 1) ∧ (i5 + 1) < (hl h1 a0 : Int)) ∧ (hk h1 a0 = 20 ∨ hk h1 a0 = 26) ∧ (0 ≤ (i5 + 2) ∧ (i5 + 2) < (hl h1 a0 : Int)) ∧ (hk h1 a0 = 20 ∨ hk h1 a0 = 26) ∧ (0 ≤ (i5 + 3) ∧ (i5 + 3) < (hl h1 a0 : Int)) ∧ InR (hi h1 a0 (Int.toNat ((i5 + 3)))) ∧ ((hi h1 a0 (Int.toNat ((i5 + 3)))) = 0 →
 K 2591 [some (pA a0), some (pA a1), some (pA a2), some (pA a3), some (pA a4), some (pI i5), some (pI x1), z7, z8] [pI 0, pI (hi h1 a0 (Int.toNat ((i5 + 2)))), pI (hi h1 a0 (Int.toNat ((i5 + 1)))), pA a2] h1 (c + 24) (s + 1700)) ∧
((hi h1 a0 (Int.toNat ((i5 + 3)))) ≠ 0 →
 K 2591 [some (pA a0), some (pA a1), some (pA a2), some (pA a3), some (pA a4), some (pI i5), some (pI x1), z7, z8] [pI 1, pI (hi h1 a0 (Int.toNat ((i5 + 2)))), pI (hi h1 a0 (Int.toNat ((i5 + 1)))), pA a2] h1 (c + 24) (s + 1700))) X) : wpc k_L_law [] call mc ms fr Q X [28, 2531, 2558, 2591] K 400 (pto 2558 k_L_law) [some (pA a0), some (pA a1), some (pA a2), some (pA a3), some (pA a4), some (pI i5), z6, z7, z8] [pI s0, pI s1, pI s2, pA s3] h c s :=
  H

set_option maxRecDepth 100000 in
theorem v_L_law_2591 (a0 : Nat) (a1 : Nat) (a2 : Nat) (a3 : Nat) (a4 : Nat) (i5 : Int) (i6 : Int) (z7 : Option PV) (z8 : Option PV) (s0 : Int) (s1 : Int) (s2 : Int) (s3 : Nat) (h : PH) (c s : Nat) (H : hk h s3 = 8 ∧ call m_X7_mask [pA s3, pI s2, pI s1, pI s0] h (fun x1 h1 =>
 hk h1 a2 = 8 ∧ call m_X7_thrown [pA a2] h1 (fun x2 h2 =>
 InR x2 ∧ InR i6 ∧ (x2 = i6 →
 InR i6 ∧ (i6 = 0 →
 hk h2 a3 = 23 ∧ (0 ≤ (0 : Int) ∧ (0 : Int) < (hl h2 a3 : Int)) ∧ InR x1 ∧ (x1 = 0 →
 InL (hi h2 a3 (Int.toNat (0 : Int))) ∧ InL 0 ∧ InR (if (hi h2 a3 (Int.toNat (0 : Int))) < 0 then -1 else if (hi h2 a3 (Int.toNat (0 : Int))) = 0 then 0 else 1) ∧ ((if (hi h2 a3 (Int.toNat (0 : Int))) < 0 then -1 else if (hi h2 a3 (Int.toNat (0 : Int))) = 0 then 0 else 1) = 0 →
 K 28 [some (pA a0), some (pA a1), some (pA a2), some (pA a3), some (pA a4), some (pI (i5 + 6)), some (pI i6), some (pI x1), z8] [] h2 c s) ∧
((if (hi h2 a3 (Int.toNat (0 : Int))) < 0 then -1 else if (hi h2 a3 (Int.toNat (0 : Int))) = 0 then 0 else 1) ≠ 0 →
 ((0 : Int) = 0 ∨ (0 : Int) = 1) ∧ Q 0 h2)) ∧
(x1 ≠ 0 →
 InL (hi h2 a3 (Int.toNat (0 : Int))) ∧ InL 1 ∧ InR (if (hi h2 a3 (Int.toNat (0 : Int))) < 1 then -1 else if (hi h2 a3 (Int.toNat (0 : Int))) = 1 then 0 else 1) ∧ ((if (hi h2 a3 (Int.toNat (0 : Int))) < 1 then -1 else if (hi h2 a3 (Int.toNat (0 : Int))) = 1 then 0 else 1) = 0 →
 K 28 [some (pA a0), some (pA a1), some (pA a2), some (pA a3), some (pA a4), some (pI (i5 + 6)), some (pI i6), some (pI x1), z8] [] h2 c s) ∧
((if (hi h2 a3 (Int.toNat (0 : Int))) < 1 then -1 else if (hi h2 a3 (Int.toNat (0 : Int))) = 1 then 0 else 1) ≠ 0 →
 ((0 : Int) = 0 ∨ (0 : Int) = 1) ∧ Q 0 h2))) ∧
(i6 ≠ 0 →
 K 28 [some (pA a0), some (pA a1), some (pA a2), some (pA a3), some (pA a4), some (pI (i5 + 6)), some (pI i6), some (pI x1), z8] [] h2 c s)) ∧
(x2 ≠ i6 →
 ((0 : Int) = 0 ∨ (0 : Int) = 1) ∧ Q 0 h2)) X) X) : wpc k_L_law [] call mc ms fr Q X [28, 2531, 2558, 2591] K 400 (pto 2591 k_L_law) [some (pA a0), some (pA a1), some (pA a2), some (pA a3), some (pA a4), some (pI i5), some (pI i6), z7, z8] [pI s0, pI s1, pI s2, pA s3] h c s :=
  H

end LJV
section LJC
variable {L : Nat} {xs : Nat → Int32} {i N : Int} {h : PH} {c s : Nat} {z6 z7 z8 : Option PV}
theorem apl_BY {D : Nat → Int → Int} {a b c d e v : Int} (B : BY D) : BY (dst (apl a b c d e 20 0 D) 0 17 v) := fun k h0 h1 => by
  have z : dst (apl a b c d e 20 0 D) 0 17 v 10 k = if D 0 17 + 0 ≤ k ∧ k < D 0 17 + 0 + (20 : Nat) then apb a b c d e (k - D 0 17) else D 10 k := by
    rw [dst_row (by decide), apl_eq]
    unfold srow
    rw [if_pos rfl]
  rw [z]
  split
  · unfold apb
    rw [band_255 (bshr_InR _ _)]
    omega
  · exact B k h0 h1
theorem apl_rows {D : Nat → Int → Int} {a b c d e v : Int} : (∀ k, k ≠ 17 → dst (apl a b c d e 20 0 D) 0 17 v 0 k = D 0 k) ∧ ∀ j, j ≠ 0 → j ≠ 10 → dst (apl a b c d e 20 0 D) 0 17 v j = D j := by
  refine ⟨fun k q => ?_, fun j q q' => ?_⟩
  · rw [dst_ne q, apl_eq]
    unfold srow
    rw [if_neg (by decide)]
  · rw [dst_row q, apl_eq]
    unfold srow
    rw [if_neg q']
set_option maxRecDepth 100000 in
theorem cl_append (Z : LT h L xs N) (hi0 : 0 ≤ i) (hL : i + 6 ≤ L) (hN : N + 97000 ≤ 99999999) (hc : c + 24 ≤ 601024) (hs : s + 1700 ≤ 7293034) (HK : HKL L xs i N c s) : WPL 256 [some (pA 1), some (pA 64), some (pA 119), some (pA 139), some (pA 140), some (pI i), z6, z7, z8] [] h c s := by
  obtain ⟨D, sr, t, C, G, M, o, sp⟩ := Z
  refine WP.of (RUN.mono GQ _) (cuts := [28, 256]) (n := 400) (v_L_law_256 _ _ _ _ _ _ _ _ _ _ _ _ ?_)
  obtain ⟨B, A, B2, A2, nx, EP, E, Cx⟩ := id C
  have h17 := G.h17
  refine ⟨Or.inr sp.1, ⟨by omega, by rw [sp.2.1]; omega⟩, Or.inr sp.1, ⟨by omega, by rw [sp.2.1]; omega⟩, Or.inr sp.1, ⟨by omega, by rw [sp.2.1]; omega⟩, Or.inr sp.1, ⟨by omega, by rw [sp.2.1]; omega⟩, Or.inr sp.1, ⟨by omega, by rw [sp.2.1]; omega⟩, Cx.2.1.k, ?_⟩
  obtain ⟨a1, ea1⟩ : ∃ z, z = hi h 1 (Int.toNat (i + 1)) := ⟨_, rfl⟩
  obtain ⟨a2, ea2⟩ : ∃ z, z = hi h 1 (Int.toNat (i + 2)) := ⟨_, rfl⟩
  obtain ⟨a3, ea3⟩ : ∃ z, z = hi h 1 (Int.toNat (i + 3)) := ⟨_, rfl⟩
  obtain ⟨a4, ea4⟩ : ∃ z, z = hi h 1 (Int.toNat (i + 4)) := ⟨_, rfl⟩
  obtain ⟨a5, ea5⟩ : ∃ z, z = hi h 1 (Int.toNat (i + 5)) := ⟨_, rfl⟩
  rw [← ea1, ← ea2, ← ea3, ← ea4, ← ea5]
  -- behind the class's append
  have fin : ∀ (h1 : PH) (x1 : Int), CF h h1 → (700 < D 0 17 + 20 → x1 = -1 ∧ CP h1 D sr (N + 97000)) → (D 0 17 + 20 ≤ 700 → x1 = D 0 17 + 20 ∧ CP h1 (dst (apl a1 a2 a3 a4 a5 20 0 D) 0 17 (D 0 17 + 20)) sr (N + 97000)) →
      (hk h1 1 = 20 ∨ hk h1 1 = 26) ∧ (0 ≤ (i + 1) ∧ (i + 1) < (hl h1 1 : Int)) ∧ (hk h1 1 = 20 ∨ hk h1 1 = 26) ∧ (0 ≤ (i + 2) ∧ (i + 2) < (hl h1 1 : Int)) ∧ (hk h1 1 = 20 ∨ hk h1 1 = 26) ∧ (0 ≤ (i + 3) ∧ (i + 3) < (hl h1 1 : Int)) ∧ (hk h1 1 = 20 ∨ hk h1 1 = 26) ∧ (0 ≤ (i + 4) ∧ (i + 4) < (hl h1 1 : Int)) ∧ (hk h1 1 = 20 ∨ hk h1 1 = 26) ∧ (0 ≤ (i + 5) ∧ (i + 5) < (hl h1 1 : Int)) ∧ hk h1 119 = 8 ∧ RUN GQ 13 m_X7_append [pA 119, pI (hi h1 1 (Int.toNat (i + 1))), pI (hi h1 1 (Int.toNat (i + 2))), pI (hi h1 1 (Int.toNat (i + 3))), pI (hi h1 1 (Int.toNat (i + 4))), pI (hi h1 1 (Int.toNat (i + 5)))] h1 (fun x2 h2 =>
 InR x1 ∧ InR x2 ∧ (x1 = x2 →
 WPL 28 [some (pA 1), some (pA 64), some (pA 119), some (pA 139), some (pA 140), some (pI (i + 6)), z6, z7, z8] [] h2 c s) ∧
(x1 ≠ x2 →
 ((0 : Int) = 0 ∨ (0 : Int) = 1) ∧ (0 : Int) = 1)) (fun _ _ => False) := by
    intro h1 x1 cf ya yb
    have g1 := cf.cg
    have o1 := o.cg g1
    have sp1 := sp.cg g1
    have M1 := M.cg g1
    have ee := sp.eq sp1
    refine ⟨Or.inr sp1.1, ⟨by omega, by rw [sp1.2.1]; omega⟩, Or.inr sp1.1, ⟨by omega, by rw [sp1.2.1]; omega⟩, Or.inr sp1.1, ⟨by omega, by rw [sp1.2.1]; omega⟩, Or.inr sp1.1, ⟨by omega, by rw [sp1.2.1]; omega⟩, Or.inr sp1.1, ⟨by omega, by rw [sp1.2.1]; omega⟩, M1.k0, ?_⟩
    rw [ee, ee, ee, ee, ee, ← ea1, ← ea2, ← ea3, ← ea4, ← ea5]
    refine S_X7_append M1 h17 (fun x2 h2 D2 q1 q2 M2 => ?_)
    by_cases y : D 0 17 + 20 ≤ 700
    · obtain ⟨u1, u2⟩ := yb y
      obtain ⟨w1, w2⟩ := q2 y
      have r := apl_rows (D := D) (a := a1) (b := a2) (c := a3) (d := a4) (e := a5) (v := D 0 17 + 20)
      subst w2
      have GD := G.buf (N' := N + 97000) (D' := dst (apl a1 a2 a3 a4 a5 20 0 D) 0 17 (D 0 17 + 20)) (by rw [dst_eq]; omega) r.1 r.2 (apl_BY G.B) (by omega) (by omega)
      exact ⟨by rw [u1]; exact ir (by omega) (by omega), by rw [w1]; exact ir (by omega) (by omega), fun _ => HK _ _ _ _ _ _ (LT.mk u2 GD M2 o1 sp1) (by omega) (by omega), fun z => absurd (u1.trans w1.symm) z⟩
    · obtain ⟨u1, u2⟩ := ya (by omega)
      obtain ⟨w1, w2⟩ := q1 (by omega)
      subst w2
      exact ⟨by rw [u1]; exact ir (by omega) (by omega), by rw [w1]; exact ir (by omega) (by omega), fun _ => HK _ _ _ _ _ _ (LT.mk u2 (G.mono (by omega) (by omega)) M2 o1 sp1) (by omega) (by omega), fun z => absurd (u1.trans w1.symm) z⟩
  refine S_X6_append Cx.2.1 Cx.2.2.2.2.1 h17 (fun y => fin h (-1) (CF.refl h) (fun _ => ⟨rfl, C.sc (fun r _ _ => SC.refl h r) (Nat.le_refl _) (by omega)⟩) (fun z => absurd z (by omega))) (fun h1 y x Fb => ?_)
  have r := apl_rows (D := D) (a := a1) (b := a2) (c := a3) (d := a4) (e := a5) (v := D 0 17 + 20)
  have u := Cx.buf (N' := N + 97000) x Fb (dst_eq _ _ _ _) r.1 r.2 (by omega)
  exact fin h1 _ u.1 (fun z => absurd z (by omega)) (fun _ => ⟨rfl, u.2⟩)
set_option maxRecDepth 100000 in
theorem cl_find (Z : LT h L xs N) (hi0 : 0 ≤ i) (hL : i + 6 ≤ L) (hN : N + 97000 ≤ 99999999) (hc : c + 24 ≤ 601024) (hs : s + 1700 ≤ 7293034) (HK : HKL L xs i N c s) : WPL 424 [some (pA 1), some (pA 64), some (pA 119), some (pA 139), some (pA 140), some (pI i), z6, z7, z8] [] h c s := by
  obtain ⟨D, sr, t, C, G, M, o, sp⟩ := Z
  have t439 : ∀ z : Int, (hi h 1 (Int.toNat (i + 1)) = 0 ∧ z = 0) ∨ (hi h 1 (Int.toNat (i + 1)) ≠ 0 ∧ z = 1) → WPL 439 [some (pA 1), some (pA 64), some (pA 119), some (pA 139), some (pA 140), some (pI i), z6, z7, z8] [pI z, pA 64] h c s := by
    intro z hz
    refine WP.of (RUN.mono GQ _) (cuts := [28, 424, 439, 466]) (n := 400) (v_L_law_439 _ _ _ _ _ _ _ _ _ _ _ _ _ _ ?_)
    refine ⟨Or.inr sp.1, ⟨by omega, by rw [sp.2.1]; omega⟩, ⟨hc, hs⟩, ?_⟩
    have hz1 : z = 0 ∨ z = 1 := by omega
    refine L_find C G o (sp.ir _) hz1 (N' := N + 97000) (by omega) (fun kr h1 e1 v g1 C1 C2 => ?_)
    have o1 := o.cg g1
    have sp1 := sp.cg g1
    have M1 := M.cg g1
    have ee := sp.eq sp1
    have t466 : WPL 466 [some (pA 1), some (pA 64), some (pA 119), some (pA 139), some (pA 140), some (pI i), some (pI kr), z7, z8] [pI z, pA 119] h1 (c + 24) (s + 1700) := by
      refine WP.of (RUN.mono GQ _) (cuts := [28, 424, 439, 466]) (n := 400) (v_L_law_466 _ _ _ _ _ _ _ _ _ _ _ _ _ _ ?_)
      refine ⟨Or.inr sp1.1, ⟨by omega, by rw [sp1.2.1]; omega⟩, M1.k0, ?_⟩
      rw [ee]
      refine S_X7_find M1 G.W (sp.ir _) hz1 G.h17 G.B G.n1 G.n2 (fun x2 h2 D2 v2 w2 M2 => ⟨M2.k0, S_X7_thrown M2 (fun x3 e3 => ?_)⟩)
      have i2 : hi h2 139 0 = hi h1 139 0 := M2.sa.2.2.2 139 0 (by omega)
      have F2 : CP h1 D2 sr (N + 97000) ∧ CD D2 sr (N + 97000) := by
        by_cases tt : kr = 0
        · have tz := e1.symm.trans tt
          obtain ⟨_, y1⟩ := v2 tz
          rw [y1]
          exact ⟨C1 tz, G.buf (by rw [dst_eq]; omega) (fun e a => dst_ne a) (fun j a b => dst_row a) (G.B.of (dst_row (by decide))) (by omega) (by omega)⟩
        · have tz := fun z => tt (e1.trans z)
          rw [w2 tz]
          exact ⟨C2 tz, G.mono (by omega) (by omega)⟩
      exact law_cmp e1 e3 (ck_ir (tL_ir D) (ir (by omega) (by omega))) (fun tt => ⟨⟨i2.trans (v tt).1, (v tt).2⟩, (v2 tt).1⟩) (M2.sa.os o1) (HK _ _ _ _ _ _ (LT.mk F2.1 F2.2 M2 o1 sp1) (by omega) (by omega))
    refine ⟨Or.inr sp1.1, ⟨by omega, by rw [sp1.2.1]; omega⟩, sp1.ir _, fun y => ?_, fun y => ?_⟩
    · have hz0 : z = 0 := by
        rw [ee] at y
        omega
      rw [hz0] at t466
      exact t466
    · have hz0 : z = 1 := by
        rw [ee] at y
        omega
      rw [hz0] at t466
      exact t466
  refine WP.of (RUN.mono GQ _) (cuts := [28, 424, 439, 466]) (n := 400) (v_L_law_424 _ _ _ _ _ _ _ _ _ _ _ _ ?_)
  exact ⟨Or.inr sp.1, ⟨by omega, by rw [sp.2.1]; omega⟩, sp.ir _, fun y => t439 0 (Or.inl ⟨y, rfl⟩), fun y => t439 1 (Or.inr ⟨y, rfl⟩)⟩
theorem law_cmpZ {x1 x2 x3 T V : Int} {h3 : PH} {P F : Prop} (e1 : x1 = T) (e3 : x3 = T) (rT : InR T) (hz : V = 0 ∨ V = 1) (hv : T = 0 → hi h3 139 0 = V ∧ x2 = V) (o : OS h3) (k : P) : InR x3 ∧ InR x1 ∧ (x3 = x1 →
 InR x1 ∧ (x1 = 0 →
 hk h3 139 = 23 ∧ (0 ≤ (0 : Int) ∧ (0 : Int) < (hl h3 139 : Int)) ∧ InR x2 ∧ (x2 = 0 →
 InL (hi h3 139 (Int.toNat (0 : Int))) ∧ InL 0 ∧ InR (if (hi h3 139 (Int.toNat (0 : Int))) < 0 then -1 else if (hi h3 139 (Int.toNat (0 : Int))) = 0 then 0 else 1) ∧ ((if (hi h3 139 (Int.toNat (0 : Int))) < 0 then -1 else if (hi h3 139 (Int.toNat (0 : Int))) = 0 then 0 else 1) = 0 →
 P) ∧
((if (hi h3 139 (Int.toNat (0 : Int))) < 0 then -1 else if (hi h3 139 (Int.toNat (0 : Int))) = 0 then 0 else 1) ≠ 0 →
 F)) ∧
(x2 ≠ 0 →
 InL (hi h3 139 (Int.toNat (0 : Int))) ∧ InL 1 ∧ InR (if (hi h3 139 (Int.toNat (0 : Int))) < 1 then -1 else if (hi h3 139 (Int.toNat (0 : Int))) = 1 then 0 else 1) ∧ ((if (hi h3 139 (Int.toNat (0 : Int))) < 1 then -1 else if (hi h3 139 (Int.toNat (0 : Int))) = 1 then 0 else 1) = 0 →
 P) ∧
((if (hi h3 139 (Int.toNat (0 : Int))) < 1 then -1 else if (hi h3 139 (Int.toNat (0 : Int))) = 1 then 0 else 1) ≠ 0 →
 F))) ∧
(x1 ≠ 0 →
 P)) ∧
(x3 ≠ x1 →
 F) := by
  subst e1
  refine ⟨by rw [e3]; exact rT, rT, fun _ => ⟨rT, fun t => ?_, fun _ => k⟩, fun c => absurd e3 c⟩
  obtain ⟨v1, v3⟩ := hv t
  have v1 : hi h3 139 (Int.toNat (0 : Int)) = V := v1
  rw [v1, v3]
  refine ⟨o.1.1, ⟨by decide, by rw [o.1.2]; decide⟩, ir (by omega) (by omega), fun q => ?_, fun q => ?_⟩
  · have e : (if V < 0 then (-1 : Int) else if V = 0 then 0 else 1) = 0 := by
      rw [if_neg (by omega), if_pos q]
    rw [e]
    exact ⟨⟨by omega, by omega⟩, ⟨by omega, by omega⟩, ir (by omega) (by omega), fun _ => k, fun c => absurd rfl c⟩
  · have e : (if V < 1 then (-1 : Int) else if V = 1 then 0 else 1) = 0 := by
      rw [if_neg (by omega), if_pos (by omega)]
    rw [e]
    exact ⟨⟨by omega, by omega⟩, ⟨by omega, by omega⟩, ir (by omega) (by omega), fun _ => k, fun c => absurd rfl c⟩
set_option maxRecDepth 100000 in
theorem cl_mask (Z : LT h L xs N) (hi0 : 0 ≤ i) (hL : i + 6 ≤ L) (hN : N + 97000 ≤ 99999999) (hc : c + 24 ≤ 601024) (hs : s + 1700 ≤ 7293034) (HK : HKL L xs i N c s) : WPL 2531 [some (pA 1), some (pA 64), some (pA 119), some (pA 139), some (pA 140), some (pI i), z6, z7, z8] [] h c s := by
  obtain ⟨D, sr, t, C, G, M, o, sp⟩ := Z
  have t58 : ∀ z : Int, (hi h 1 (Int.toNat (i + 3)) = 0 ∧ z = 0) ∨ (hi h 1 (Int.toNat (i + 3)) ≠ 0 ∧ z = 1) → WPL 2558 [some (pA 1), some (pA 64), some (pA 119), some (pA 139), some (pA 140), some (pI i), z6, z7, z8] [pI z, pI (hi h 1 (Int.toNat (i + 2))), pI (hi h 1 (Int.toNat (i + 1))), pA 64] h c s := by
    intro z hz
    refine WP.of (RUN.mono GQ _) (cuts := [28, 2531, 2558, 2591]) (n := 400) (v_L_law_2558 _ _ _ _ _ _ _ _ _ _ _ _ _ _ _ _ ?_)
    refine ⟨⟨hc, hs⟩, ?_⟩
    have hz1 : z = 0 ∨ z = 1 := by omega
    refine L_mask C G o (sp.ir _) (sp.ir _) (ir (by omega) (by omega)) hz1 (N' := N + 97000) (by omega) (fun kr h1 e1 v g1 C1 => ?_)
    have o1 := o.cg g1
    have sp1 := sp.cg g1
    have M1 := M.cg g1
    have ee := sp.eq sp1
    have t91 : WPL 2591 [some (pA 1), some (pA 64), some (pA 119), some (pA 139), some (pA 140), some (pI i), some (pI kr), z7, z8] [pI z, pI (hi h1 1 (Int.toNat (i + 2))), pI (hi h1 1 (Int.toNat (i + 1))), pA 119] h1 (c + 24) (s + 1700) := by
      refine WP.of (RUN.mono GQ _) (cuts := [28, 2531, 2558, 2591]) (n := 400) (v_L_law_2591 _ _ _ _ _ _ _ _ _ _ _ _ _ _ _ _ ?_)
      refine ⟨M1.k0, ?_⟩
      rw [ee, ee]
      refine S_X7_mask M1 G.W (sp.ir _) (sp.ir _) (ir (by omega) (by omega)) G.c hz1 (fun x2 h2 D2 s2 v2 w2 M2 => ⟨M2.k0, S_X7_thrown M2 (fun x3 e3 => ?_)⟩)
      have i2 : hi h2 139 0 = hi h1 139 0 := M2.sa.2.2.2 139 0 (by omega)
      have F2 : CP h1 D2 s2 (N + 97000) ∧ CD D2 s2 (N + 97000) := by
        by_cases tt : kr = 0
        · have tz := e1.symm.trans tt
          obtain ⟨_, y1, y2⟩ := v2 tz
          rw [y1, y2]
          exact ⟨C1.1 tz, G_mask G (by omega) tz⟩
        · have tz := fun z => tt (e1.trans z)
          obtain ⟨y1, y2⟩ := w2 tz
          rw [y1, y2]
          exact ⟨C1.2 tz, G.mono (by omega) (by omega)⟩
      exact law_cmpZ e1 e3 (ck_ir (ck_ir (tL_ir D) (ir (by omega) (by omega))) (ir (by omega) (by omega))) (msk_01 _ _) (fun tt => ⟨i2.trans (v tt).1, (v2 tt).1⟩) (M2.sa.os o1) (HK _ _ _ _ _ _ (LT.mk F2.1 F2.2 M2 o1 sp1) (by omega) (by omega))
    refine ⟨Or.inr sp1.1, ⟨by omega, by rw [sp1.2.1]; omega⟩, Or.inr sp1.1, ⟨by omega, by rw [sp1.2.1]; omega⟩, Or.inr sp1.1, ⟨by omega, by rw [sp1.2.1]; omega⟩, sp1.ir _, fun y => ?_, fun y => ?_⟩
    · have hz0 : z = 0 := by
        rw [ee] at y
        omega
      rw [hz0] at t91
      exact t91
    · have hz0 : z = 1 := by
        rw [ee] at y
        omega
      rw [hz0] at t91
      exact t91
  refine WP.of (RUN.mono GQ _) (cuts := [28, 2531, 2558, 2591]) (n := 400) (v_L_law_2531 _ _ _ _ _ _ _ _ _ _ _ _ ?_)
  exact ⟨Or.inr sp.1, ⟨by omega, by rw [sp.2.1]; omega⟩, Or.inr sp.1, ⟨by omega, by rw [sp.2.1]; omega⟩, Or.inr sp.1, ⟨by omega, by rw [sp.2.1]; omega⟩, sp.ir _, fun y => t58 0 (Or.inl ⟨y, rfl⟩), fun y => t58 1 (Or.inr ⟨y, rfl⟩)⟩
end LJC
