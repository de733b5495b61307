/-! the class's names (written by wip/whole/tools/eng.py) -/
section VCS
variable {call : PC} {mc ms fr : Nat} {Q : Int → PH → Prop} {X : Nat → PH → Prop} {K : PK}
set_option maxRecDepth 100000 in
theorem v_X2_isAt_0 (a0 : Nat) (i1 : Int) (a2 : Nat) (i3 : Int) (i4 : Int) (z5 : Option PV) (z6 : Option PV) (h : PH) (c s : Nat) (H : InR i1 ∧ (i1 < 0 →
 ((0 : Int) = 0 ∨ (0 : Int) = 1) ∧ Q 0 h) ∧
(0 ≤ i1 →
 hk h a0 = 3 ∧ (20 ≤ hk h (hr h a0 0) ∧ hk h (hr h a0 0) ≤ 26) ∧ InR i1 ∧ InR ((hl h (hr h a0 0) : Int)) ∧ (i1 < ((hl h (hr h a0 0) : Int)) →
 hk h a0 = 3 ∧ (hk h (hr h a0 0) = 20 ∨ hk h (hr h a0 0) = 26) ∧ (0 ≤ i1 ∧ i1 < (hl h (hr h a0 0) : Int)) ∧ InR (hi h (hr h a0 0) (Int.toNat i1)) ∧ InR i4 ∧ ((hi h (hr h a0 0) (Int.toNat i1)) = i4 →
 hk h a0 = 3 ∧ (20 ≤ hk h (hr h a0 1) ∧ hk h (hr h a0 1) ≤ 26) ∧ InR ((i1 * 7) + i4) ∧ InR ((hl h (hr h a0 1) : Int)) ∧ (((hl h (hr h a0 1) : Int)) < ((i1 * 7) + i4) →
 ((0 : Int) = 0 ∨ (0 : Int) = 1) ∧ Q 0 h) ∧
(((i1 * 7) + i4) ≤ ((hl h (hr h a0 1) : Int)) →
 InR i3 ∧ (i3 < 0 →
 ((0 : Int) = 0 ∨ (0 : Int) = 1) ∧ Q 0 h) ∧
(0 ≤ i3 →
 (20 ≤ hk h a2 ∧ hk h a2 ≤ 26) ∧ InR i3 ∧ InR (((hl h a2 : Int)) - i4) ∧ ((((hl h a2 : Int)) - i4) < i3 →
 ((0 : Int) = 0 ∨ (0 : Int) = 1) ∧ Q 0 h) ∧
(i3 ≤ (((hl h a2 : Int)) - i4) →
 K 63 [some (pA a0), some (pI i1), some (pA a2), some (pI i3), some (pI i4), some (pI (i1 * 7)), some (pI 0)] [] h c s)))) ∧
((hi h (hr h a0 0) (Int.toNat i1)) ≠ i4 →
 ((0 : Int) = 0 ∨ (0 : Int) = 1) ∧ Q 0 h)) ∧
(((hl h (hr h a0 0) : Int)) ≤ i1 →
 ((0 : Int) = 0 ∨ (0 : Int) = 1) ∧ Q 0 h))) : wpc k_X2_isAt [] call mc ms fr Q X [63] K 400 (pto 0 k_X2_isAt) [some (pA a0), some (pI i1), some (pA a2), some (pI i3), some (pI i4), z5, z6] [] h c s :=
  H
set_option maxRecDepth 100000 in
theorem v_X2_isAt_63 (a0 : Nat) (i1 : Int) (a2 : Nat) (i3 : Int) (i4 : Int) (i5 : Int) (i6 : Int) (h : PH) (c s : Nat) (H : InR i6 ∧ InR i4 ∧ (i6 < i4 →
 hk h a0 = 3 ∧ hk h (hr h a0 1) = 21 ∧ (0 ≤ (i5 + i6) ∧ (i5 + i6) < (hl h (hr h a0 1) : Int)) ∧ hk h a2 = 21 ∧ (0 ≤ (i3 + i6) ∧ (i3 + i6) < (hl h a2 : Int)) ∧ InR (hi h (hr h a0 1) (Int.toNat ((i5 + i6)))) ∧ InR (hi h a2 (Int.toNat ((i3 + i6)))) ∧ ((hi h (hr h a0 1) (Int.toNat ((i5 + i6)))) = (hi h a2 (Int.toNat ((i3 + i6)))) →
 K 63 [some (pA a0), some (pI i1), some (pA a2), some (pI i3), some (pI i4), some (pI i5), some (pI (i6 + 1))] [] h c s) ∧
((hi h (hr h a0 1) (Int.toNat ((i5 + i6)))) ≠ (hi h a2 (Int.toNat ((i3 + i6)))) →
 ((0 : Int) = 0 ∨ (0 : Int) = 1) ∧ Q 0 h)) ∧
(i4 ≤ i6 →
 ((1 : Int) = 0 ∨ (1 : Int) = 1) ∧ Q 1 h)) : wpc k_X2_isAt [] call mc ms fr Q X [63] K 400 (pto 63 k_X2_isAt) [some (pA a0), some (pI i1), some (pA a2), some (pI i3), some (pI i4), some (pI i5), some (pI i6)] [] h c s :=
  H
set_option maxRecDepth 100000 in
theorem v_X2_placeOf_0 (a0 : Nat) (a1 : Nat) (i2 : Int) (i3 : Int) (z4 : Option PV) (h : PH) (c s : Nat) (H : K 3 [some (pA a0), some (pA a1), some (pI i2), some (pI i3), some (pI 0)] [] h c s) : wpc k_X2_placeOf [] call mc ms fr Q X [3] K 400 (pto 0 k_X2_placeOf) [some (pA a0), some (pA a1), some (pI i2), some (pI i3), z4] [] h c s :=
  H
set_option maxRecDepth 100000 in
theorem v_X2_placeOf_3 (a0 : Nat) (a1 : Nat) (i2 : Int) (i3 : Int) (i4 : Int) (h : PH) (c s : Nat) (H : hk h a0 = 3 ∧ InR i4 ∧ InR (hi h a0 2) ∧ (i4 < (hi h a0 2) →
 hk h a0 = 3 ∧ call m_X2_isAt [pA a0, pI i4, pA a1, pI i2, pI i3] h (fun x1 h1 =>
 InR x1 ∧ (x1 = 0 →
 K 3 [some (pA a0), some (pA a1), some (pI i2), some (pI i3), some (pI (i4 + 1))] [] h1 c s) ∧
(x1 ≠ 0 →
 Q i4 h1)) X) ∧
((hi h a0 2) ≤ i4 →
 Q ((-1)) h)) : wpc k_X2_placeOf [] call mc ms fr Q X [3] K 400 (pto 3 k_X2_placeOf) [some (pA a0), some (pA a1), some (pI i2), some (pI i3), some (pI i4)] [] h c s :=
  H
end VCS
theorem L_X2_isAt_k_63 {d b : Nat} {h0 h : PH} {EP D : Nat → Int → Int} {f : Int → Int} {K : Int} {Q : Int → PH → Prop} {X : Nat → PH → Prop} {k fr m : Int} {a : Int} (M : Px b h0 h EP) (F : BFR h D) (hK1 : EP 1 2 = K) (hK : 0 ≤ K ∧ K ≤ 8) (NK : NR (EP 2) (EP 3) f K) (hB : BY D) (hfr : 0 ≤ fr ∧ fr + m ≤ 700) (hm : 0 ≤ m ∧ m ≤ 7) (ha : a = 7 * k ∧ 0 ≤ k ∧ k < 8) (hRl : ∀ j, 0 ≤ j → j < m → 97 ≤ EP 3 (a + j) ∧ EP 3 (a + j) ≤ 122) : ∀ (n : Nat) (i : Int), (0 ≤ i ∧ i + n = m) → (∀ x : Int, x = iel (EP 3) (fun e => sgb (D 10 e)) a fr n i → Q x h) → WP k_X2_isAt [] (RUN GQ (d + 0)) 0 0 (d + 1) Q X 63 [some (pA (b + 1)), some (pI k), some (pA 65), some (pI fr), some (pI m), some (pI a), some (pI i)] [] h 0 0 := by
  intro n
  induction n with
  | zero =>
    intro i hi0 H
    refine WP.of (RUN.mono GQ _) (cuts := [63]) (n := 400) (v_X2_isAt_63 _ _ _ _ _ _ _ _ _ _ ?_)
    refine ⟨ir (by omega) (by omega), ir (by omega) (by omega), fun c67 => ?_, fun c67 => ?_⟩
    · exfalso; omega
    · refine ⟨(by omega), ?_⟩
      exact H _ rfl
  | succ n ih =>
    intro i hi0 H
    have r2 : i < m → -128 ≤ sgb (D 10 (fr + i)) ∧ sgb (D 10 (fr + i)) ≤ 127 := fun hi => by (have := hB (fr + i) (by omega) (by omega); unfold sgb; split <;> omega)
    have r1 := hRl i (by omega)
    refine WP.of (RUN.mono GQ _) (cuts := [63]) (n := 400) (v_X2_isAt_63 _ _ _ _ _ _ _ _ _ _ ?_)
    refine ⟨ir (by omega) (by omega), ir (by omega) (by omega), fun c67 => ?_, fun c67 => ?_⟩
    · refine ⟨Bx.k M 1 (by decide) rfl, ?_⟩
      try rw [show hr h (b + 1) 1 = b + 3 from Bx.r M 1 1 3 (by decide)]
      refine Bx.ldb M 3 56 21 (by decide) rfl rfl (by omega) (by omega) (fun er => ?_)
      try rw [er]
      clear er
      refine ⟨F.1, ⟨by omega, by rw [F.2.1]; omega⟩, ?_⟩
      rw [F.2.2 _ (by omega) (by omega)]
      refine ⟨ir (by omega) (by omega), ir (by omega) (by omega), fun c86 => ?_, fun c86 => ?_⟩
      · refine ih _ (by omega) ?_
        rw [iel, if_pos c86] at H
        exact H
      · refine ⟨(by omega), ?_⟩
        exact H _ (by rw [iel, if_neg c86])
    · exfalso; omega
theorem S_X2_isAt_k {d b : Nat} {h0 h : PH} {EP D : Nat → Int → Int} {f : Int → Int} {K : Int} {Q : Int → PH → Prop} {X : Nat → PH → Prop} {k fr m : Int} (M : Px b h0 h EP) (F : BFR h D) (hK1 : EP 1 2 = K) (hK : 0 ≤ K ∧ K ≤ 8) (NK : NR (EP 2) (EP 3) f K) (hB : BY D) (hkx : 0 ≤ k ∧ k < K) (hfr : 0 ≤ fr ∧ fr + m ≤ 700) (hm : 0 ≤ m ∧ m ≤ 700) (H : ∀ x : Int, x = (if EP 2 k = m then iel (EP 3) (fun e => sgb (D 10 e)) (7 * k) fr m.toNat 0 else 0) → Q x h) : RUN GQ (d + 1) m_X2_isAt [pA (b + 1), pI k, pA 65, pI fr, pI m] h Q X := by
  obtain ⟨n1, n2, n3⟩ := NK k hkx.1 hkx.2
  rw [e_X2_isAt]
  refine WP.of (RUN.mono GQ _) (cuts := [63]) (n := 400) (v_X2_isAt_0 _ _ _ _ _ _ _ _ _ _ ?_)
  refine ⟨ir (by omega) (by omega), fun c1 => ?_, fun c1 => ?_⟩
  · refine ⟨(by omega), ?_⟩
    first
    | (exfalso; omega)
    | exact H _ (by rw [if_neg (by omega)])
  · refine ⟨Bx.k M 1 (by decide) rfl, ?_⟩
    try rw [show hr h (b + 1) 0 = b + 2 from Bx.r M 1 0 2 (by decide)]
    refine Bx.al M 2 8 20 (by decide) rfl (by decide) rfl (fun el9 => ?_)
    refine ⟨ir (by omega) (by omega), ir (by omega) (by omega), fun c10 => ?_, fun c10 => ?_⟩
    · refine ⟨Bx.k M 1 (by decide) rfl, ?_⟩
      try rw [show hr h (b + 1) 0 = b + 2 from Bx.r M 1 0 2 (by decide)]
      refine Bx.ld M 2 8 (by decide) rfl rfl (by omega) (by omega) (fun er => ?_)
      try rw [er]
      clear er
      refine ⟨ir (by omega) (by omega), ir (by omega) (by omega), fun c21 => ?_, fun c21 => ?_⟩
      · refine ⟨Bx.k M 1 (by decide) rfl, ?_⟩
        try rw [show hr h (b + 1) 1 = b + 3 from Bx.r M 1 1 3 (by decide)]
        refine Bx.al M 3 56 21 (by decide) rfl (by decide) rfl (fun el41 => ?_)
        refine ⟨ir (by omega) (by omega), ir (by omega) (by omega), fun c42 => ?_, fun c42 => ?_⟩
        · refine ⟨(by omega), ?_⟩
          exfalso; omega
        · refine ⟨ir (by omega) (by omega), fun c46 => ?_, fun c46 => ?_⟩
          · refine ⟨(by omega), ?_⟩
            exfalso; omega
          · refine ⟨by rw [F.1]; omega, ?_⟩
            rw [F.2.1]
            refine ⟨ir (by omega) (by omega), ir (by omega) (by omega), fun c55 => ?_, fun c55 => ?_⟩
            · refine ⟨(by omega), ?_⟩
              exfalso; omega
            · refine L_X2_isAt_k_63 M F hK1 hK NK hB hfr (by omega) (by omega) (fun j a b => by rw [show k * 7 + j = 7 * k + j by omega]; have := n2 j a (by omega); omega) (m.toNat) _ (by omega) ?_
              refine fun x e => H x ?_
              rw [if_pos (by omega), show 7 * k = k * 7 by omega]; exact e
      · refine ⟨(by omega), ?_⟩
        first
        | (exfalso; omega)
        | exact H _ (by rw [if_neg (by omega)])
    · refine ⟨(by omega), ?_⟩
      first
      | (exfalso; omega)
      | exact H _ (by rw [if_neg (by omega)])
theorem L_X2_placeOf_k_3 {d b : Nat} {h0 h : PH} {EP D : Nat → Int → Int} {f : Int → Int} {K : Int} {Q : Int → PH → Prop} {X : Nat → PH → Prop} {fr m : Int} (M : Px b h0 h EP) (F : BFR h D) (hK1 : EP 1 2 = K) (hK : 0 ≤ K ∧ K ≤ 8) (NK : NR (EP 2) (EP 3) f K) (hB : BY D) (hfr : 0 ≤ fr ∧ fr + m ≤ 700) (hm : 0 ≤ m ∧ m ≤ 700) : ∀ (n : Nat) (k : Int), (0 ≤ k ∧ k + n = K) → (∀ x : Int, x = nmv f D fr (fr + m) n k → Q x h) → WP k_X2_placeOf [] (RUN GQ (d + 1)) 0 0 (d + 2) Q X 3 [some (pA (b + 1)), some (pA 65), some (pI fr), some (pI m), some (pI k)] [] h 0 0 := by
  intro n
  induction n with
  | zero =>
    intro k hk0 H
    refine WP.of (RUN.mono GQ _) (cuts := [3]) (n := 400) (v_X2_placeOf_3 _ _ _ _ _ _ _ _ ?_)
    refine ⟨Bx.k M 1 (by decide) rfl, ?_⟩
    try rw [show hi h (b + 1) 2 = _ from Bx.f2 M 1 (by decide)]
    rw [hK1]
    refine ⟨ir (by omega) (by omega), ir (by omega) (by omega), fun c9 => ?_, fun c9 => ?_⟩
    · exfalso; omega
    · exact H _ rfl
  | succ n ih =>
    intro k hk0 H
    obtain ⟨n1, n2, n3⟩ := NK k (by omega) (by omega)
    have em : fr + m - fr = m := by omega
    have e1 : nmv f D fr (fr + m) (n + 1) k = if 1 ≤ fr + m - fr ∧ fr + m - fr ≤ 7 then (if nme f D fr (fr + m) k 7 0 1 = 1 then k else nmv f D fr (fr + m) n (k + 1)) else -1 := rfl
    rw [em] at e1
    have ia : m ≤ 7 → (if EP 2 k = m then iel (EP 3) (fun e => sgb (D 10 e)) (7 * k) fr m.toNat 0 else 0) = nme f D fr (fr + m) k 7 0 1 := fun h7 => by (have := isAt_nme (D := D) (bg := fr) (en := fr + m) n1 n2 n3 (fun i a b => hB _ (by omega) (by omega)) (by omega); rw [em] at this; exact this)
    have i7 : 7 < m → (if EP 2 k = m then iel (EP 3) (fun e => sgb (D 10 e)) (7 * k) fr m.toNat 0 else 0) = 0 := fun h7 => if_neg (by omega)
    have i0 : m < 1 → (if EP 2 k = m then iel (EP 3) (fun e => sgb (D 10 e)) (7 * k) fr m.toNat 0 else 0) = 0 := fun h7 => if_neg (by omega)
    have nb : nmv f D fr (fr + m) n (k + 1) = -1 ∨ 1 ≤ m ∧ m ≤ 7 := nmv_bad (m := m)
    refine WP.of (RUN.mono GQ _) (cuts := [3]) (n := 400) (v_X2_placeOf_3 _ _ _ _ _ _ _ _ ?_)
    refine ⟨Bx.k M 1 (by decide) rfl, ?_⟩
    try rw [show hi h (b + 1) 2 = _ from Bx.f2 M 1 (by decide)]
    rw [hK1]
    refine ⟨ir (by omega) (by omega), ir (by omega) (by omega), fun c9 => ?_, fun c9 => ?_⟩
    · refine ⟨Bx.k M 1 (by decide) rfl, ?_⟩
      refine S_X2_isAt_k M F hK1 hK NK hB (by omega) (by omega) (by omega) (fun x18 e18 => ?_)
      have i01 : iel (EP 3) (fun e => sgb (D 10 e)) (7 * k) fr m.toNat 0 = 0 ∨ iel (EP 3) (fun e => sgb (D 10 e)) (7 * k) fr m.toNat 0 = 1 := by
        rcases iel_spec (EP 3) (fun e => sgb (D 10 e)) (7 * k) fr m.toNat 0 with q | q
        · exact Or.inr q.1
        · exact Or.inl q.1
      have x01 : x18 = 0 ∨ x18 = 1 := by rw [e18]; split <;> omega
      have xn : m ≤ 7 → x18 = nme f D fr (fr + m) k 7 0 1 := fun h => e18.trans (ia h)
      have xz : 7 < m → x18 = 0 := fun h => e18.trans (i7 h)
      have xo : m < 1 → x18 = 0 := fun h => e18.trans (i0 h)
      clear e18 ia i7 i0 i01
      refine ⟨ir (by omega) (by omega), fun c21 => ?_, fun c21 => ?_⟩
      · refine ih _ (by omega) ?_
        refine fun x e => H x (e.trans ?_)
        rw [e1]
        by_cases q : 1 ≤ m ∧ m ≤ 7
        · rw [if_pos q, if_neg (by omega)]
        · rw [if_neg q]; omega
      · refine H _ ?_
        rw [e1, if_pos (by omega), if_pos (by omega)]
    · exfalso; omega
theorem S_X2_placeOf_k {d b : Nat} {h0 h : PH} {EP D : Nat → Int → Int} {f : Int → Int} {K : Int} {Q : Int → PH → Prop} {X : Nat → PH → Prop} {fr m : Int} (M : Px b h0 h EP) (F : BFR h D) (hK1 : EP 1 2 = K) (hK : 0 ≤ K ∧ K ≤ 8) (NK : NR (EP 2) (EP 3) f K) (hB : BY D) (hfr : 0 ≤ fr ∧ fr + m ≤ 700) (hm : 0 ≤ m ∧ m ≤ 700) (H : ∀ x : Int, x = nmv f D fr (fr + m) K.toNat 0 → Q x h) : RUN GQ (d + 2) m_X2_placeOf [pA (b + 1), pA 65, pI fr, pI m] h Q X := by
  rw [e_X2_placeOf]
  refine WP.of (RUN.mono GQ _) (cuts := [3]) (n := 400) (v_X2_placeOf_0 _ _ _ _ _ _ _ _ ?_)
  refine L_X2_placeOf_k_3 M F hK1 hK NK hB hfr hm (K.toNat) _ (by omega) ?_
  exact H
theorem L_X2_isAt_p_63 {d b : Nat} {h0 h : PH} {EP D : Nat → Int → Int} {f : Int → Int} {K : Int} {Q : Int → PH → Prop} {X : Nat → PH → Prop} {k fr m : Int} {a : Int} (M : Px b h0 h EP) (F : BFR h D) (hK1 : EP 4 2 = K) (hK : 0 ≤ K ∧ K ≤ 8) (NK : NR (EP 5) (EP 6) f K) (hB : BY D) (hfr : 0 ≤ fr ∧ fr + m ≤ 700) (hm : 0 ≤ m ∧ m ≤ 7) (ha : a = 7 * k ∧ 0 ≤ k ∧ k < 8) (hRl : ∀ j, 0 ≤ j → j < m → 97 ≤ EP 6 (a + j) ∧ EP 6 (a + j) ≤ 122) : ∀ (n : Nat) (i : Int), (0 ≤ i ∧ i + n = m) → (∀ x : Int, x = iel (EP 6) (fun e => sgb (D 10 e)) a fr n i → Q x h) → WP k_X2_isAt [] (RUN GQ (d + 0)) 0 0 (d + 1) Q X 63 [some (pA (b + 4)), some (pI k), some (pA 65), some (pI fr), some (pI m), some (pI a), some (pI i)] [] h 0 0 := by
  intro n
  induction n with
  | zero =>
    intro i hi0 H
    refine WP.of (RUN.mono GQ _) (cuts := [63]) (n := 400) (v_X2_isAt_63 _ _ _ _ _ _ _ _ _ _ ?_)
    refine ⟨ir (by omega) (by omega), ir (by omega) (by omega), fun c67 => ?_, fun c67 => ?_⟩
    · exfalso; omega
    · refine ⟨(by omega), ?_⟩
      exact H _ rfl
  | succ n ih =>
    intro i hi0 H
    have r2 : i < m → -128 ≤ sgb (D 10 (fr + i)) ∧ sgb (D 10 (fr + i)) ≤ 127 := fun hi => by (have := hB (fr + i) (by omega) (by omega); unfold sgb; split <;> omega)
    have r1 := hRl i (by omega)
    refine WP.of (RUN.mono GQ _) (cuts := [63]) (n := 400) (v_X2_isAt_63 _ _ _ _ _ _ _ _ _ _ ?_)
    refine ⟨ir (by omega) (by omega), ir (by omega) (by omega), fun c67 => ?_, fun c67 => ?_⟩
    · refine ⟨Bx.k M 4 (by decide) rfl, ?_⟩
      try rw [show hr h (b + 4) 1 = b + 6 from Bx.r M 4 1 6 (by decide)]
      refine Bx.ldb M 6 56 21 (by decide) rfl rfl (by omega) (by omega) (fun er => ?_)
      try rw [er]
      clear er
      refine ⟨F.1, ⟨by omega, by rw [F.2.1]; omega⟩, ?_⟩
      rw [F.2.2 _ (by omega) (by omega)]
      refine ⟨ir (by omega) (by omega), ir (by omega) (by omega), fun c86 => ?_, fun c86 => ?_⟩
      · refine ih _ (by omega) ?_
        rw [iel, if_pos c86] at H
        exact H
      · refine ⟨(by omega), ?_⟩
        exact H _ (by rw [iel, if_neg c86])
    · exfalso; omega
theorem S_X2_isAt_p {d b : Nat} {h0 h : PH} {EP D : Nat → Int → Int} {f : Int → Int} {K : Int} {Q : Int → PH → Prop} {X : Nat → PH → Prop} {k fr m : Int} (M : Px b h0 h EP) (F : BFR h D) (hK1 : EP 4 2 = K) (hK : 0 ≤ K ∧ K ≤ 8) (NK : NR (EP 5) (EP 6) f K) (hB : BY D) (hkx : 0 ≤ k ∧ k < K) (hfr : 0 ≤ fr ∧ fr + m ≤ 700) (hm : 0 ≤ m ∧ m ≤ 700) (H : ∀ x : Int, x = (if EP 5 k = m then iel (EP 6) (fun e => sgb (D 10 e)) (7 * k) fr m.toNat 0 else 0) → Q x h) : RUN GQ (d + 1) m_X2_isAt [pA (b + 4), pI k, pA 65, pI fr, pI m] h Q X := by
  obtain ⟨n1, n2, n3⟩ := NK k hkx.1 hkx.2
  rw [e_X2_isAt]
  refine WP.of (RUN.mono GQ _) (cuts := [63]) (n := 400) (v_X2_isAt_0 _ _ _ _ _ _ _ _ _ _ ?_)
  refine ⟨ir (by omega) (by omega), fun c1 => ?_, fun c1 => ?_⟩
  · refine ⟨(by omega), ?_⟩
    first
    | (exfalso; omega)
    | exact H _ (by rw [if_neg (by omega)])
  · refine ⟨Bx.k M 4 (by decide) rfl, ?_⟩
    try rw [show hr h (b + 4) 0 = b + 5 from Bx.r M 4 0 5 (by decide)]
    refine Bx.al M 5 8 20 (by decide) rfl (by decide) rfl (fun el9 => ?_)
    refine ⟨ir (by omega) (by omega), ir (by omega) (by omega), fun c10 => ?_, fun c10 => ?_⟩
    · refine ⟨Bx.k M 4 (by decide) rfl, ?_⟩
      try rw [show hr h (b + 4) 0 = b + 5 from Bx.r M 4 0 5 (by decide)]
      refine Bx.ld M 5 8 (by decide) rfl rfl (by omega) (by omega) (fun er => ?_)
      try rw [er]
      clear er
      refine ⟨ir (by omega) (by omega), ir (by omega) (by omega), fun c21 => ?_, fun c21 => ?_⟩
      · refine ⟨Bx.k M 4 (by decide) rfl, ?_⟩
        try rw [show hr h (b + 4) 1 = b + 6 from Bx.r M 4 1 6 (by decide)]
        refine Bx.al M 6 56 21 (by decide) rfl (by decide) rfl (fun el41 => ?_)
        refine ⟨ir (by omega) (by omega), ir (by omega) (by omega), fun c42 => ?_, fun c42 => ?_⟩
        · refine ⟨(by omega), ?_⟩
          exfalso; omega
        · refine ⟨ir (by omega) (by omega), fun c46 => ?_, fun c46 => ?_⟩
          · refine ⟨(by omega), ?_⟩
            exfalso; omega
          · refine ⟨by rw [F.1]; omega, ?_⟩
            rw [F.2.1]
            refine ⟨ir (by omega) (by omega), ir (by omega) (by omega), fun c55 => ?_, fun c55 => ?_⟩
            · refine ⟨(by omega), ?_⟩
              exfalso; omega
            · refine L_X2_isAt_p_63 M F hK1 hK NK hB hfr (by omega) (by omega) (fun j a b => by rw [show k * 7 + j = 7 * k + j by omega]; have := n2 j a (by omega); omega) (m.toNat) _ (by omega) ?_
              refine fun x e => H x ?_
              rw [if_pos (by omega), show 7 * k = k * 7 by omega]; exact e
      · refine ⟨(by omega), ?_⟩
        first
        | (exfalso; omega)
        | exact H _ (by rw [if_neg (by omega)])
    · refine ⟨(by omega), ?_⟩
      first
      | (exfalso; omega)
      | exact H _ (by rw [if_neg (by omega)])
theorem L_X2_placeOf_p_3 {d b : Nat} {h0 h : PH} {EP D : Nat → Int → Int} {f : Int → Int} {K : Int} {Q : Int → PH → Prop} {X : Nat → PH → Prop} {fr m : Int} (M : Px b h0 h EP) (F : BFR h D) (hK1 : EP 4 2 = K) (hK : 0 ≤ K ∧ K ≤ 8) (NK : NR (EP 5) (EP 6) f K) (hB : BY D) (hfr : 0 ≤ fr ∧ fr + m ≤ 700) (hm : 0 ≤ m ∧ m ≤ 700) : ∀ (n : Nat) (k : Int), (0 ≤ k ∧ k + n = K) → (∀ x : Int, x = nmv f D fr (fr + m) n k → Q x h) → WP k_X2_placeOf [] (RUN GQ (d + 1)) 0 0 (d + 2) Q X 3 [some (pA (b + 4)), some (pA 65), some (pI fr), some (pI m), some (pI k)] [] h 0 0 := by
  intro n
  induction n with
  | zero =>
    intro k hk0 H
    refine WP.of (RUN.mono GQ _) (cuts := [3]) (n := 400) (v_X2_placeOf_3 _ _ _ _ _ _ _ _ ?_)
    refine ⟨Bx.k M 4 (by decide) rfl, ?_⟩
    try rw [show hi h (b + 4) 2 = _ from Bx.f2 M 4 (by decide)]
    rw [hK1]
    refine ⟨ir (by omega) (by omega), ir (by omega) (by omega), fun c9 => ?_, fun c9 => ?_⟩
    · exfalso; omega
    · exact H _ rfl
  | succ n ih =>
    intro k hk0 H
    obtain ⟨n1, n2, n3⟩ := NK k (by omega) (by omega)
    have em : fr + m - fr = m := by omega
    have e1 : nmv f D fr (fr + m) (n + 1) k = if 1 ≤ fr + m - fr ∧ fr + m - fr ≤ 7 then (if nme f D fr (fr + m) k 7 0 1 = 1 then k else nmv f D fr (fr + m) n (k + 1)) else -1 := rfl
    rw [em] at e1
    have ia : m ≤ 7 → (if EP 5 k = m then iel (EP 6) (fun e => sgb (D 10 e)) (7 * k) fr m.toNat 0 else 0) = nme f D fr (fr + m) k 7 0 1 := fun h7 => by (have := isAt_nme (D := D) (bg := fr) (en := fr + m) n1 n2 n3 (fun i a b => hB _ (by omega) (by omega)) (by omega); rw [em] at this; exact this)
    have i7 : 7 < m → (if EP 5 k = m then iel (EP 6) (fun e => sgb (D 10 e)) (7 * k) fr m.toNat 0 else 0) = 0 := fun h7 => if_neg (by omega)
    have i0 : m < 1 → (if EP 5 k = m then iel (EP 6) (fun e => sgb (D 10 e)) (7 * k) fr m.toNat 0 else 0) = 0 := fun h7 => if_neg (by omega)
    have nb : nmv f D fr (fr + m) n (k + 1) = -1 ∨ 1 ≤ m ∧ m ≤ 7 := nmv_bad (m := m)
    refine WP.of (RUN.mono GQ _) (cuts := [3]) (n := 400) (v_X2_placeOf_3 _ _ _ _ _ _ _ _ ?_)
    refine ⟨Bx.k M 4 (by decide) rfl, ?_⟩
    try rw [show hi h (b + 4) 2 = _ from Bx.f2 M 4 (by decide)]
    rw [hK1]
    refine ⟨ir (by omega) (by omega), ir (by omega) (by omega), fun c9 => ?_, fun c9 => ?_⟩
    · refine ⟨Bx.k M 4 (by decide) rfl, ?_⟩
      refine S_X2_isAt_p M F hK1 hK NK hB (by omega) (by omega) (by omega) (fun x18 e18 => ?_)
      have i01 : iel (EP 6) (fun e => sgb (D 10 e)) (7 * k) fr m.toNat 0 = 0 ∨ iel (EP 6) (fun e => sgb (D 10 e)) (7 * k) fr m.toNat 0 = 1 := by
        rcases iel_spec (EP 6) (fun e => sgb (D 10 e)) (7 * k) fr m.toNat 0 with q | q
        · exact Or.inr q.1
        · exact Or.inl q.1
      have x01 : x18 = 0 ∨ x18 = 1 := by rw [e18]; split <;> omega
      have xn : m ≤ 7 → x18 = nme f D fr (fr + m) k 7 0 1 := fun h => e18.trans (ia h)
      have xz : 7 < m → x18 = 0 := fun h => e18.trans (i7 h)
      have xo : m < 1 → x18 = 0 := fun h => e18.trans (i0 h)
      clear e18 ia i7 i0 i01
      refine ⟨ir (by omega) (by omega), fun c21 => ?_, fun c21 => ?_⟩
      · refine ih _ (by omega) ?_
        refine fun x e => H x (e.trans ?_)
        rw [e1]
        by_cases q : 1 ≤ m ∧ m ≤ 7
        · rw [if_pos q, if_neg (by omega)]
        · rw [if_neg q]; omega
      · refine H _ ?_
        rw [e1, if_pos (by omega), if_pos (by omega)]
    · exfalso; omega
theorem S_X2_placeOf_p {d b : Nat} {h0 h : PH} {EP D : Nat → Int → Int} {f : Int → Int} {K : Int} {Q : Int → PH → Prop} {X : Nat → PH → Prop} {fr m : Int} (M : Px b h0 h EP) (F : BFR h D) (hK1 : EP 4 2 = K) (hK : 0 ≤ K ∧ K ≤ 8) (NK : NR (EP 5) (EP 6) f K) (hB : BY D) (hfr : 0 ≤ fr ∧ fr + m ≤ 700) (hm : 0 ≤ m ∧ m ≤ 700) (H : ∀ x : Int, x = nmv f D fr (fr + m) K.toNat 0 → Q x h) : RUN GQ (d + 2) m_X2_placeOf [pA (b + 4), pA 65, pI fr, pI m] h Q X := by
  rw [e_X2_placeOf]
  refine WP.of (RUN.mono GQ _) (cuts := [3]) (n := 400) (v_X2_placeOf_0 _ _ _ _ _ _ _ _ ?_)
  refine L_X2_placeOf_p_3 M F hK1 hK NK hB hfr hm (K.toNat) _ (by omega) ?_
  exact H
