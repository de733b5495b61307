/-! the model: what the hall becomes (written by wip/whole/tools/eng.py) -/
section VCS
variable {call : PC} {mc ms fr : Nat} {Q : Int → PH → Prop} {X : Nat → PH → Prop} {K : PK}
set_option maxRecDepth 100000 in
theorem v_X7_becomes_0 (a0 : Nat) (z1 : Option PV) (h : PH) (c s : Nat) (H : hk h a0 = 8 ∧ hk h a0 = 8 ∧ ∀ h1, h1 = hsi h a0 2 (hi h a0 30) →
 hk h1 a0 = 8 ∧ hk h1 a0 = 8 ∧ ∀ h2, h2 = hsi h1 a0 3 (hi h1 a0 31) →
 hk h2 a0 = 8 ∧ hk h2 a0 = 8 ∧ ∀ h3, h3 = hsi h2 a0 4 (hi h2 a0 32) →
 hk h3 a0 = 8 ∧ hk h3 a0 = 8 ∧ ∀ h4, h4 = hsi h3 a0 5 (hi h3 a0 33) →
 K 34 [some (pA a0), some (pI 0)] [] h4 c s) : wpc k_X7_becomes [] call mc ms fr Q X [34, 60, 86, 124, 151, 206, 235, 264] K 400 (pto 0 k_X7_becomes) [some (pA a0), z1] [] h c s :=
  H
set_option maxRecDepth 100000 in
theorem v_X7_becomes_34 (a0 : Nat) (i1 : Int) (h : PH) (c s : Nat) (H : InR i1 ∧ InR 56 ∧ (i1 < 56 →
 hk h a0 = 8 ∧ hk h a0 = 8 ∧ (hk h (hr h a0 35) = 20 ∨ hk h (hr h a0 35) = 26) ∧ (0 ≤ i1 ∧ i1 < (hl h (hr h a0 35) : Int)) ∧ hk h (hr h a0 6) = 20 ∧ (0 ≤ i1 ∧ i1 < (hl h (hr h a0 6) : Int)) ∧ ∀ h1, h1 = hsi h (hr h a0 6) (Int.toNat i1) (hi h (hr h a0 35) (Int.toNat i1)) →
 K 34 [some (pA a0), some (pI (i1 + 1))] [] h1 c s) ∧
(56 ≤ i1 →
 K 60 [some (pA a0), some (pI 0)] [] h c s)) : wpc k_X7_becomes [] call mc ms fr Q X [34, 60, 86, 124, 151, 206, 235, 264] K 400 (pto 34 k_X7_becomes) [some (pA a0), some (pI i1)] [] h c s :=
  H
set_option maxRecDepth 100000 in
theorem v_X7_becomes_60 (a0 : Nat) (i1 : Int) (h : PH) (c s : Nat) (H : InR i1 ∧ InR 42 ∧ (i1 < 42 →
 hk h a0 = 8 ∧ hk h a0 = 8 ∧ (hk h (hr h a0 36) = 20 ∨ hk h (hr h a0 36) = 26) ∧ (0 ≤ i1 ∧ i1 < (hl h (hr h a0 36) : Int)) ∧ hk h (hr h a0 7) = 20 ∧ (0 ≤ i1 ∧ i1 < (hl h (hr h a0 7) : Int)) ∧ ∀ h1, h1 = hsi h (hr h a0 7) (Int.toNat i1) (hi h (hr h a0 36) (Int.toNat i1)) →
 K 60 [some (pA a0), some (pI (i1 + 1))] [] h1 c s) ∧
(42 ≤ i1 →
 K 86 [some (pA a0), some (pI 0)] [] h c s)) : wpc k_X7_becomes [] call mc ms fr Q X [34, 60, 86, 124, 151, 206, 235, 264] K 400 (pto 60 k_X7_becomes) [some (pA a0), some (pI i1)] [] h c s :=
  H
set_option maxRecDepth 100000 in
theorem v_X7_becomes_86 (a0 : Nat) (i1 : Int) (h : PH) (c s : Nat) (H : InR i1 ∧ InR 48 ∧ (i1 < 48 →
 hk h a0 = 8 ∧ hk h a0 = 8 ∧ (hk h (hr h a0 39) = 20 ∨ hk h (hr h a0 39) = 26) ∧ (0 ≤ i1 ∧ i1 < (hl h (hr h a0 39) : Int)) ∧ hk h (hr h a0 8) = 20 ∧ (0 ≤ i1 ∧ i1 < (hl h (hr h a0 8) : Int)) ∧ ∀ h1, h1 = hsi h (hr h a0 8) (Int.toNat i1) (hi h (hr h a0 39) (Int.toNat i1)) →
 hk h1 a0 = 8 ∧ hk h1 a0 = 8 ∧ (hk h1 (hr h1 a0 40) = 20 ∨ hk h1 (hr h1 a0 40) = 26) ∧ (0 ≤ i1 ∧ i1 < (hl h1 (hr h1 a0 40) : Int)) ∧ hk h1 (hr h1 a0 9) = 20 ∧ (0 ≤ i1 ∧ i1 < (hl h1 (hr h1 a0 9) : Int)) ∧ ∀ h2, h2 = hsi h1 (hr h1 a0 9) (Int.toNat i1) (hi h1 (hr h1 a0 40) (Int.toNat i1)) →
 K 86 [some (pA a0), some (pI (i1 + 1))] [] h2 c s) ∧
(48 ≤ i1 →
 K 124 [some (pA a0), some (pI 0)] [] h c s)) : wpc k_X7_becomes [] call mc ms fr Q X [34, 60, 86, 124, 151, 206, 235, 264] K 400 (pto 86 k_X7_becomes) [some (pA a0), some (pI i1)] [] h c s :=
  H
set_option maxRecDepth 100000 in
theorem v_X7_becomes_124 (a0 : Nat) (i1 : Int) (h : PH) (c s : Nat) (H : InR i1 ∧ InR 768 ∧ (i1 < 768 →
 hk h a0 = 8 ∧ hk h a0 = 8 ∧ (hk h (hr h a0 41) = 20 ∨ hk h (hr h a0 41) = 26) ∧ (0 ≤ i1 ∧ i1 < (hl h (hr h a0 41) : Int)) ∧ hk h (hr h a0 10) = 20 ∧ (0 ≤ i1 ∧ i1 < (hl h (hr h a0 10) : Int)) ∧ ∀ h1, h1 = hsi h (hr h a0 10) (Int.toNat i1) (hi h (hr h a0 41) (Int.toNat i1)) →
 K 124 [some (pA a0), some (pI (i1 + 1))] [] h1 c s) ∧
(768 ≤ i1 →
 K 151 [some (pA a0), some (pI 0)] [] h c s)) : wpc k_X7_becomes [] call mc ms fr Q X [34, 60, 86, 124, 151, 206, 235, 264] K 400 (pto 124 k_X7_becomes) [some (pA a0), some (pI i1)] [] h c s :=
  H
set_option maxRecDepth 100000 in
theorem v_X7_becomes_151 (a0 : Nat) (i1 : Int) (h : PH) (c s : Nat) (H : InR i1 ∧ InR 861 ∧ (i1 < 861 →
 hk h a0 = 8 ∧ hk h (hr h a0 11) = 20 ∧ (0 ≤ i1 ∧ i1 < (hl h (hr h a0 11) : Int)) ∧ ∀ h1, h1 = hsi h (hr h a0 11) (Int.toNat i1) 0 →
 K 151 [some (pA a0), some (pI (i1 + 1))] [] h1 c s) ∧
(861 ≤ i1 →
 hk h a0 = 8 ∧ hk h a0 = 8 ∧ hk h (hr h a0 11) = 20 ∧ (0 ≤ (10 : Int) ∧ (10 : Int) < (hl h (hr h a0 11) : Int)) ∧ ∀ h2, h2 = hsi h (hr h a0 11) (Int.toNat (10 : Int)) (hi h a0 27) →
 hk h2 a0 = 8 ∧ hk h2 a0 = 8 ∧ hk h2 (hr h2 a0 11) = 20 ∧ (0 ≤ (11 : Int) ∧ (11 : Int) < (hl h2 (hr h2 a0 11) : Int)) ∧ ∀ h3, h3 = hsi h2 (hr h2 a0 11) (Int.toNat (11 : Int)) (hi h2 a0 28) →
 hk h3 a0 = 8 ∧ hk h3 a0 = 8 ∧ hk h3 (hr h3 a0 11) = 20 ∧ (0 ≤ (12 : Int) ∧ (12 : Int) < (hl h3 (hr h3 a0 11) : Int)) ∧ ∀ h4, h4 = hsi h3 (hr h3 a0 11) (Int.toNat (12 : Int)) (hi h3 a0 29) →
 K 206 [some (pA a0), some (pI 0)] [] h4 c s)) : wpc k_X7_becomes [] call mc ms fr Q X [34, 60, 86, 124, 151, 206, 235, 264] K 400 (pto 151 k_X7_becomes) [some (pA a0), some (pI i1)] [] h c s :=
  H
set_option maxRecDepth 100000 in
theorem v_X7_becomes_206 (a0 : Nat) (i1 : Int) (h : PH) (c s : Nat) (H : InR i1 ∧ InR 24 ∧ (i1 < 24 →
 hk h a0 = 8 ∧ hk h a0 = 8 ∧ (hk h (hr h a0 37) = 20 ∨ hk h (hr h a0 37) = 26) ∧ (0 ≤ i1 ∧ i1 < (hl h (hr h a0 37) : Int)) ∧ hk h (hr h a0 11) = 20 ∧ (0 ≤ (13 + i1) ∧ (13 + i1) < (hl h (hr h a0 11) : Int)) ∧ ∀ h1, h1 = hsi h (hr h a0 11) (Int.toNat ((13 + i1))) (hi h (hr h a0 37) (Int.toNat i1)) →
 K 206 [some (pA a0), some (pI (i1 + 1))] [] h1 c s) ∧
(24 ≤ i1 →
 K 235 [some (pA a0), some (pI 0)] [] h c s)) : wpc k_X7_becomes [] call mc ms fr Q X [34, 60, 86, 124, 151, 206, 235, 264] K 400 (pto 206 k_X7_becomes) [some (pA a0), some (pI i1)] [] h c s :=
  H
set_option maxRecDepth 100000 in
theorem v_X7_becomes_235 (a0 : Nat) (i1 : Int) (h : PH) (c s : Nat) (H : InR i1 ∧ InR 6 ∧ (i1 < 6 →
 hk h a0 = 8 ∧ hk h a0 = 8 ∧ (hk h (hr h a0 38) = 20 ∨ hk h (hr h a0 38) = 26) ∧ (0 ≤ i1 ∧ i1 < (hl h (hr h a0 38) : Int)) ∧ hk h (hr h a0 11) = 20 ∧ (0 ≤ (85 + i1) ∧ (85 + i1) < (hl h (hr h a0 11) : Int)) ∧ ∀ h1, h1 = hsi h (hr h a0 11) (Int.toNat ((85 + i1))) (hi h (hr h a0 38) (Int.toNat i1)) →
 K 235 [some (pA a0), some (pI (i1 + 1))] [] h1 c s) ∧
(6 ≤ i1 →
 K 264 [some (pA a0), some (pI 0)] [] h c s)) : wpc k_X7_becomes [] call mc ms fr Q X [34, 60, 86, 124, 151, 206, 235, 264] K 400 (pto 235 k_X7_becomes) [some (pA a0), some (pI i1)] [] h c s :=
  H
set_option maxRecDepth 100000 in
theorem v_X7_becomes_264 (a0 : Nat) (i1 : Int) (h : PH) (c s : Nat) (H : hk h a0 = 8 ∧ InR i1 ∧ InR (hi h a0 34) ∧ (i1 < (hi h a0 34) →
 hk h a0 = 8 ∧ (hk h (hr h a0 42) = 20 ∨ hk h (hr h a0 42) = 26) ∧ (0 ≤ (3 * i1) ∧ (3 * i1) < (hl h (hr h a0 42) : Int)) ∧ hk h a0 = 8 ∧ (hk h (hr h a0 42) = 20 ∨ hk h (hr h a0 42) = 26) ∧ (0 ≤ ((3 * i1) + 1) ∧ ((3 * i1) + 1) < (hl h (hr h a0 42) : Int)) ∧ hk h a0 = 8 ∧ (hk h (hr h a0 42) = 20 ∨ hk h (hr h a0 42) = 26) ∧ (0 ≤ ((3 * i1) + 2) ∧ ((3 * i1) + 2) < (hl h (hr h a0 42) : Int)) ∧ hk h a0 = 8 ∧ call m_X7_sends [pA a0, pI (hi h (hr h a0 42) (Int.toNat ((3 * i1)))), pI (hi h (hr h a0 42) (Int.toNat (((3 * i1) + 1)))), pI (hi h (hr h a0 42) (Int.toNat (((3 * i1) + 2)))), pI ((-1))] h (fun _ h1 =>
 K 264 [some (pA a0), some (pI (i1 + 1))] [] h1 c s) X) ∧
((hi h a0 34) ≤ i1 →
 Q 0 h)) : wpc k_X7_becomes [] call mc ms fr Q X [34, 60, 86, 124, 151, 206, 235, 264] K 400 (pto 264 k_X7_becomes) [some (pA a0), some (pI i1)] [] h c s :=
  H
end VCS
theorem L_X7_becomes_264 {d b : Nat} {h0 : PH} {D : Nat → Int → Int} {t : Int} {Q : Int → PH → Prop} {X : Nat → PH → Prop} (V : PIv D) (h34 : 0 ≤ D 0 34 ∧ D 0 34 ≤ 12) (hS : ∀ i, 0 ≤ i → i < D 0 34 → (0 ≤ D 18 (3 * i) ∧ D 18 (3 * i) < D 0 4) ∧ (0 ≤ D 18 (3 * i + 1) ∧ D 18 (3 * i + 1) < D 0 3) ∧ (0 ≤ D 18 (3 * i + 2) ∧ D 18 (3 * i + 2) ≤ 999)) : ∀ (n : Nat) (k : Int) (s : Int → Int) (h : PH) (N : Int), (Mt b h0 h D s t) → (HI (D 0 3) (D 0 4) (D 0 2) N s) → (0 ≤ k ∧ k + n = D 0 34) → (N + 2 * n ≤ 100) → (∀ (x : Int) h', x = 0 → Mt b h0 h' D (bse D n k s) t → Q x h') → WP k_X7_becomes [] (RUN GQ (d + 5)) 0 0 (d + 6) Q X 264 [some (pA b), some (pI k)] [] h 0 0 := by
  intro n
  induction n with
  | zero =>
    intro k s h N M I hk0 hN H
    refine WP.of (RUN.mono GQ _) (cuts := [34, 60, 86, 124, 151, 206, 235, 264]) (n := 400) (v_X7_becomes_264 _ _ _ _ _ ?_)
    refine ⟨M.k0, ?_⟩
    try rw [M.f34]
    refine ⟨ir (by omega) (by omega), ir (by omega) (by omega), fun c269 => ?_, fun c269 => ?_⟩
    · exfalso; omega
    · exact H _ _ rfl M
  | succ n ih =>
    intro k s h N M I hk0 hN H
    have q := hS k (by omega) (by omega)
    refine WP.of (RUN.mono GQ _) (cuts := [34, 60, 86, 124, 151, 206, 235, 264]) (n := 400) (v_X7_becomes_264 _ _ _ _ _ ?_)
    refine ⟨M.k0, ?_⟩
    try rw [M.f34]
    refine ⟨ir (by omega) (by omega), ir (by omega) (by omega), fun c269 => ?_, fun c269 => ?_⟩
    · refine ⟨M.k0, ?_⟩
      try rw [M.r42]
      refine M.ld18 (by omega) (by omega) (fun er => ?_)
      try rw [er]
      clear er
      refine ⟨M.k0, ?_⟩
      try rw [M.r42]
      refine M.ld18 (by omega) (by omega) (fun er => ?_)
      try rw [er]
      clear er
      refine ⟨M.k0, ?_⟩
      try rw [M.r42]
      refine M.ld18 (by omega) (by omega) (fun er => ?_)
      try rw [er]
      clear er
      refine ⟨M.k0, ?_⟩
      refine S_X7_sends_t M I V (by omega) (by omega) (by omega) (by omega) (by omega) (fun x302 h302 e302 M302 => ?_)
      subst e302
      have I302 := snd_HI (v := D 18 (3 * k + 2)) (b := -1) I V.1.2 V.2.1 V.2.2.1 q.1 q.2.1 (by omega) (by omega)
      refine ih _ _ _ _ M302 I302 (by omega) (by omega) ?_
      exact H
    · exfalso; omega
theorem L_X7_becomes_235 {d b : Nat} {h0 : PH} {D : Nat → Int → Int} {t : Int} {Q : Int → PH → Prop} {X : Nat → PH → Prop}  : ∀ (n : Nat) (k : Int) (s : Int → Int) (h : PH), (Mt b h0 h D s t) → (0 ≤ k ∧ k + n = 6) → (BOK D (scr 85 (D 14) n k s)) → (∀ (x : Int) h', x = 0 → Mt b h0 h' D (bse D (D 0 34).toNat 0 (scr 85 (D 14) n k s)) t → Q x h') → WP k_X7_becomes [] (RUN GQ (d + 5)) 0 0 (d + 6) Q X 235 [some (pA b), some (pI k)] [] h 0 0 := by
  intro n
  induction n with
  | zero =>
    intro k s h M hk0 hO H
    refine WP.of (RUN.mono GQ _) (cuts := [34, 60, 86, 124, 151, 206, 235, 264]) (n := 400) (v_X7_becomes_235 _ _ _ _ _ ?_)
    refine ⟨ir (by omega) (by omega), ir (by omega) (by omega), fun c238 => ?_, fun c238 => ?_⟩
    · exfalso; omega
    · refine L_X7_becomes_264 hO.1 hO.2.2.1 hO.2.2.2 ((D 0 34).toNat) _ _ _ _ M hO.2.1 (by have := hO.2.2.1; omega) (by have := hO.2.2.1; omega) ?_
      exact H
  | succ n ih =>
    intro k s h M hk0 hO H
    refine WP.of (RUN.mono GQ _) (cuts := [34, 60, 86, 124, 151, 206, 235, 264]) (n := 400) (v_X7_becomes_235 _ _ _ _ _ ?_)
    refine ⟨ir (by omega) (by omega), ir (by omega) (by omega), fun c238 => ?_, fun c238 => ?_⟩
    · refine ⟨M.k0, ?_⟩
      try rw [M.r11]
      refine ⟨M.k0, ?_⟩
      try rw [M.r38]
      refine M.ld14 (by omega) (by omega) (fun er => ?_)
      try rw [er]
      clear er
      refine M.as6 (by omega) (by omega) (fun h255 M255 => ?_)
      refine ih _ _ _ M255 (by omega) (by exact hO) ?_
      exact H
    · exfalso; omega
theorem L_X7_becomes_206 {d b : Nat} {h0 : PH} {D : Nat → Int → Int} {t : Int} {Q : Int → PH → Prop} {X : Nat → PH → Prop}  : ∀ (n : Nat) (k : Int) (s : Int → Int) (h : PH), (Mt b h0 h D s t) → (0 ≤ k ∧ k + n = 24) → (BOK D (b7 D (scr 13 (D 13) n k s))) → (∀ (x : Int) h', x = 0 → Mt b h0 h' D (bse D (D 0 34).toNat 0 (b7 D (scr 13 (D 13) n k s))) t → Q x h') → WP k_X7_becomes [] (RUN GQ (d + 5)) 0 0 (d + 6) Q X 206 [some (pA b), some (pI k)] [] h 0 0 := by
  intro n
  induction n with
  | zero =>
    intro k s h M hk0 hO H
    refine WP.of (RUN.mono GQ _) (cuts := [34, 60, 86, 124, 151, 206, 235, 264]) (n := 400) (v_X7_becomes_206 _ _ _ _ _ ?_)
    refine ⟨ir (by omega) (by omega), ir (by omega) (by omega), fun c209 => ?_, fun c209 => ?_⟩
    · exfalso; omega
    · refine L_X7_becomes_235 (6) _ _ _ M (by omega) (by exact hO) ?_
      exact H
  | succ n ih =>
    intro k s h M hk0 hO H
    refine WP.of (RUN.mono GQ _) (cuts := [34, 60, 86, 124, 151, 206, 235, 264]) (n := 400) (v_X7_becomes_206 _ _ _ _ _ ?_)
    refine ⟨ir (by omega) (by omega), ir (by omega) (by omega), fun c209 => ?_, fun c209 => ?_⟩
    · refine ⟨M.k0, ?_⟩
      try rw [M.r11]
      refine ⟨M.k0, ?_⟩
      try rw [M.r37]
      refine M.ld13 (by omega) (by omega) (fun er => ?_)
      try rw [er]
      clear er
      refine M.as6 (by omega) (by omega) (fun h226 M226 => ?_)
      refine ih _ _ _ M226 (by omega) (by exact hO) ?_
      exact H
    · exfalso; omega
theorem L_X7_becomes_151 {d b : Nat} {h0 : PH} {D : Nat → Int → Int} {t : Int} {Q : Int → PH → Prop} {X : Nat → PH → Prop}  : ∀ (n : Nat) (k : Int) (s : Int → Int) (h : PH), (Mt b h0 h D s t) → (0 ≤ k ∧ k + n = 861) → (BOK D (b5 D (szl n k s))) → (∀ (x : Int) h', x = 0 → Mt b h0 h' D (bse D (D 0 34).toNat 0 (b5 D (szl n k s))) t → Q x h') → WP k_X7_becomes [] (RUN GQ (d + 5)) 0 0 (d + 6) Q X 151 [some (pA b), some (pI k)] [] h 0 0 := by
  intro n
  induction n with
  | zero =>
    intro k s h M hk0 hO H
    refine WP.of (RUN.mono GQ _) (cuts := [34, 60, 86, 124, 151, 206, 235, 264]) (n := 400) (v_X7_becomes_151 _ _ _ _ _ ?_)
    refine ⟨ir (by omega) (by omega), ir (by omega) (by omega), fun c155 => ?_, fun c155 => ?_⟩
    · exfalso; omega
    · refine ⟨M.k0, ?_⟩
      try rw [M.r11]
      refine ⟨M.k0, ?_⟩
      try rw [M.f27]
      refine M.as6 (by omega) (by omega) (fun h181 M181 => ?_)
      refine ⟨M181.k0, ?_⟩
      try rw [M181.r11]
      refine ⟨M181.k0, ?_⟩
      try rw [M181.f28]
      refine M181.as6 (by omega) (by omega) (fun h192 M192 => ?_)
      refine ⟨M192.k0, ?_⟩
      try rw [M192.r11]
      refine ⟨M192.k0, ?_⟩
      try rw [M192.f29]
      refine M192.as6 (by omega) (by omega) (fun h203 M203 => ?_)
      refine L_X7_becomes_206 (24) _ _ _ M203 (by omega) (by exact hO) ?_
      exact H
  | succ n ih =>
    intro k s h M hk0 hO H
    refine WP.of (RUN.mono GQ _) (cuts := [34, 60, 86, 124, 151, 206, 235, 264]) (n := 400) (v_X7_becomes_151 _ _ _ _ _ ?_)
    refine ⟨ir (by omega) (by omega), ir (by omega) (by omega), fun c155 => ?_, fun c155 => ?_⟩
    · refine ⟨M.k0, ?_⟩
      try rw [M.r11]
      refine M.as6 (by omega) (by omega) (fun h164 M164 => ?_)
      refine ih _ _ _ M164 (by omega) (by exact hO) ?_
      exact H
    · exfalso; omega
theorem L_X7_becomes_124 {d b : Nat} {h0 : PH} {s : Int → Int} {t : Int} {Q : Int → PH → Prop} {X : Nat → PH → Prop}  : ∀ (n : Nat) (k : Int) (D : Nat → Int → Int) (h : PH), (Mt b h0 h D s t) → (0 ≤ k ∧ k + n = 768) → (BOK (rcp 5 17 n k D) (b4 (rcp 5 17 n k D) s)) → (∀ (x : Int) h', x = 0 → Mt b h0 h' (rcp 5 17 n k D) (bse (rcp 5 17 n k D) ((rcp 5 17 n k D) 0 34).toNat 0 (b4 (rcp 5 17 n k D) s)) t → Q x h') → WP k_X7_becomes [] (RUN GQ (d + 5)) 0 0 (d + 6) Q X 124 [some (pA b), some (pI k)] [] h 0 0 := by
  intro n
  induction n with
  | zero =>
    intro k D h M hk0 hO H
    refine WP.of (RUN.mono GQ _) (cuts := [34, 60, 86, 124, 151, 206, 235, 264]) (n := 400) (v_X7_becomes_124 _ _ _ _ _ ?_)
    refine ⟨ir (by omega) (by omega), ir (by omega) (by omega), fun c128 => ?_, fun c128 => ?_⟩
    · exfalso; omega
    · refine L_X7_becomes_151 (861) _ _ _ M (by omega) (by exact hO) ?_
      exact H
  | succ n ih =>
    intro k D h M hk0 hO H
    refine WP.of (RUN.mono GQ _) (cuts := [34, 60, 86, 124, 151, 206, 235, 264]) (n := 400) (v_X7_becomes_124 _ _ _ _ _ ?_)
    refine ⟨ir (by omega) (by omega), ir (by omega) (by omega), fun c128 => ?_, fun c128 => ?_⟩
    · refine ⟨M.k0, ?_⟩
      try rw [M.r10]
      refine ⟨M.k0, ?_⟩
      try rw [M.r41]
      refine M.ld17 (by omega) (by omega) (fun er => ?_)
      try rw [er]
      clear er
      refine M.as5 (by omega) (by omega) (fun h142 M142 => ?_)
      refine ih _ _ _ M142 (by omega) (by exact hO) ?_
      exact H
    · exfalso; omega
theorem L_X7_becomes_86 {d b : Nat} {h0 : PH} {s : Int → Int} {t : Int} {Q : Int → PH → Prop} {X : Nat → PH → Prop}  : ∀ (n : Nat) (k : Int) (D : Nat → Int → Int) (h : PH), (Mt b h0 h D s t) → (0 ≤ k ∧ k + n = 48) → (BOK (bd3 (rc2 n k D)) (b4 (bd3 (rc2 n k D)) s)) → (∀ (x : Int) h', x = 0 → Mt b h0 h' (bd3 (rc2 n k D)) (bse (bd3 (rc2 n k D)) ((bd3 (rc2 n k D)) 0 34).toNat 0 (b4 (bd3 (rc2 n k D)) s)) t → Q x h') → WP k_X7_becomes [] (RUN GQ (d + 5)) 0 0 (d + 6) Q X 86 [some (pA b), some (pI k)] [] h 0 0 := by
  intro n
  induction n with
  | zero =>
    intro k D h M hk0 hO H
    refine WP.of (RUN.mono GQ _) (cuts := [34, 60, 86, 124, 151, 206, 235, 264]) (n := 400) (v_X7_becomes_86 _ _ _ _ _ ?_)
    refine ⟨ir (by omega) (by omega), ir (by omega) (by omega), fun c89 => ?_, fun c89 => ?_⟩
    · exfalso; omega
    · refine L_X7_becomes_124 (768) _ _ _ M (by omega) (by exact hO) ?_
      exact H
  | succ n ih =>
    intro k D h M hk0 hO H
    refine WP.of (RUN.mono GQ _) (cuts := [34, 60, 86, 124, 151, 206, 235, 264]) (n := 400) (v_X7_becomes_86 _ _ _ _ _ ?_)
    refine ⟨ir (by omega) (by omega), ir (by omega) (by omega), fun c89 => ?_, fun c89 => ?_⟩
    · refine ⟨M.k0, ?_⟩
      try rw [M.r8]
      refine ⟨M.k0, ?_⟩
      try rw [M.r39]
      refine M.ld15 (by omega) (by omega) (fun er => ?_)
      try rw [er]
      clear er
      refine M.as3 (by omega) (by omega) (fun h103 M103 => ?_)
      refine ⟨M103.k0, ?_⟩
      try rw [M103.r9]
      refine ⟨M103.k0, ?_⟩
      try rw [M103.r40]
      refine M103.ld16 (by omega) (by omega) (fun er => ?_)
      try rw [er]
      clear er
      refine M103.as4 (by omega) (by omega) (fun h115 M115 => ?_)
      refine ih _ _ _ M115 (by omega) (by exact hO) ?_
      exact H
    · exfalso; omega
theorem L_X7_becomes_60 {d b : Nat} {h0 : PH} {s : Int → Int} {t : Int} {Q : Int → PH → Prop} {X : Nat → PH → Prop}  : ∀ (n : Nat) (k : Int) (D : Nat → Int → Int) (h : PH), (Mt b h0 h D s t) → (0 ≤ k ∧ k + n = 42) → (BOK (bd2 (rcp 2 12 n k D)) (b4 (bd2 (rcp 2 12 n k D)) s)) → (∀ (x : Int) h', x = 0 → Mt b h0 h' (bd2 (rcp 2 12 n k D)) (bse (bd2 (rcp 2 12 n k D)) ((bd2 (rcp 2 12 n k D)) 0 34).toNat 0 (b4 (bd2 (rcp 2 12 n k D)) s)) t → Q x h') → WP k_X7_becomes [] (RUN GQ (d + 5)) 0 0 (d + 6) Q X 60 [some (pA b), some (pI k)] [] h 0 0 := by
  intro n
  induction n with
  | zero =>
    intro k D h M hk0 hO H
    refine WP.of (RUN.mono GQ _) (cuts := [34, 60, 86, 124, 151, 206, 235, 264]) (n := 400) (v_X7_becomes_60 _ _ _ _ _ ?_)
    refine ⟨ir (by omega) (by omega), ir (by omega) (by omega), fun c63 => ?_, fun c63 => ?_⟩
    · exfalso; omega
    · refine L_X7_becomes_86 (48) _ _ _ M (by omega) (by exact hO) ?_
      exact H
  | succ n ih =>
    intro k D h M hk0 hO H
    refine WP.of (RUN.mono GQ _) (cuts := [34, 60, 86, 124, 151, 206, 235, 264]) (n := 400) (v_X7_becomes_60 _ _ _ _ _ ?_)
    refine ⟨ir (by omega) (by omega), ir (by omega) (by omega), fun c63 => ?_, fun c63 => ?_⟩
    · refine ⟨M.k0, ?_⟩
      try rw [M.r7]
      refine ⟨M.k0, ?_⟩
      try rw [M.r36]
      refine M.ld12 (by omega) (by omega) (fun er => ?_)
      try rw [er]
      clear er
      refine M.as2 (by omega) (by omega) (fun h77 M77 => ?_)
      refine ih _ _ _ M77 (by omega) (by exact hO) ?_
      exact H
    · exfalso; omega
theorem L_X7_becomes_34 {d b : Nat} {h0 : PH} {s : Int → Int} {t : Int} {Q : Int → PH → Prop} {X : Nat → PH → Prop}  : ∀ (n : Nat) (k : Int) (D : Nat → Int → Int) (h : PH), (Mt b h0 h D s t) → (0 ≤ k ∧ k + n = 56) → (BOK (bd1 (rcp 1 11 n k D)) (b4 (bd1 (rcp 1 11 n k D)) s)) → (∀ (x : Int) h', x = 0 → Mt b h0 h' (bd1 (rcp 1 11 n k D)) (bse (bd1 (rcp 1 11 n k D)) ((bd1 (rcp 1 11 n k D)) 0 34).toNat 0 (b4 (bd1 (rcp 1 11 n k D)) s)) t → Q x h') → WP k_X7_becomes [] (RUN GQ (d + 5)) 0 0 (d + 6) Q X 34 [some (pA b), some (pI k)] [] h 0 0 := by
  intro n
  induction n with
  | zero =>
    intro k D h M hk0 hO H
    refine WP.of (RUN.mono GQ _) (cuts := [34, 60, 86, 124, 151, 206, 235, 264]) (n := 400) (v_X7_becomes_34 _ _ _ _ _ ?_)
    refine ⟨ir (by omega) (by omega), ir (by omega) (by omega), fun c37 => ?_, fun c37 => ?_⟩
    · exfalso; omega
    · refine L_X7_becomes_60 (42) _ _ _ M (by omega) (by exact hO) ?_
      exact H
  | succ n ih =>
    intro k D h M hk0 hO H
    refine WP.of (RUN.mono GQ _) (cuts := [34, 60, 86, 124, 151, 206, 235, 264]) (n := 400) (v_X7_becomes_34 _ _ _ _ _ ?_)
    refine ⟨ir (by omega) (by omega), ir (by omega) (by omega), fun c37 => ?_, fun c37 => ?_⟩
    · refine ⟨M.k0, ?_⟩
      try rw [M.r6]
      refine ⟨M.k0, ?_⟩
      try rw [M.r35]
      refine M.ld11 (by omega) (by omega) (fun er => ?_)
      try rw [er]
      clear er
      refine M.as1 (by omega) (by omega) (fun h51 M51 => ?_)
      refine ih _ _ _ M51 (by omega) (by exact hO) ?_
      exact H
    · exfalso; omega
theorem S_X7_becomes {d b : Nat} {h0 h : PH} {D : Nat → Int → Int} {s : Int → Int} {t : Int} {Q : Int → PH → Prop} {X : Nat → PH → Prop} (M : Mt b h0 h D s t) (hO : BOK (bcD D) (b4 (bcD D) s)) (H : ∀ (x : Int) h', x = 0 → Mt b h0 h' (bcD D) (bcS D s) t → Q x h') : RUN GQ (d + 6) m_X7_becomes [pA b] h Q X := by
  rw [e_X7_becomes]
  refine WP.of (RUN.mono GQ _) (cuts := [34, 60, 86, 124, 151, 206, 235, 264]) (n := 400) (v_X7_becomes_0 _ _ _ _ _ ?_)
  refine ⟨M.k0, ?_⟩
  try rw [M.f30]
  refine M.p2 (fun h5 M5 => ?_)
  refine ⟨M5.k0, ?_⟩
  try rw [M5.f31]
  rw [dst_ne (by decide)]
  refine M5.p3 (fun h13 M13 => ?_)
  refine ⟨M13.k0, ?_⟩
  try rw [M13.f32]
  rw [dst_ne (by decide), dst_ne (by decide)]
  refine M13.p4 (fun h21 M21 => ?_)
  refine ⟨M21.k0, ?_⟩
  try rw [M21.f33]
  rw [dst_ne (by decide), dst_ne (by decide), dst_ne (by decide)]
  refine M21.p5 (fun h29 M29 => ?_)
  refine L_X7_becomes_34 (56) _ _ _ M29 (by omega) (by exact hO) ?_
  exact H
