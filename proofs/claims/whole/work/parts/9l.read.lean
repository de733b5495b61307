/-! the model reads (written by wip/whole/tools/eng.py) -/
section VCS
variable {call : PC} {mc ms fr : Nat} {Q : Int → PH → Prop} {X : Nat → PH → Prop} {K : PK}
set_option maxRecDepth 100000 in
theorem v_X7_isLetter_0 (i0 : Int) (h : PH) (c s : Nat) (H : InR i0 ∧ InR 97 ∧ (i0 < 97 →
 ((0 : Int) = 0 ∨ (0 : Int) = 1) ∧ Q 0 h) ∧
(97 ≤ i0 →
 InR i0 ∧ InR 122 ∧ (122 < i0 →
 ((0 : Int) = 0 ∨ (0 : Int) = 1) ∧ Q 0 h) ∧
(i0 ≤ 122 →
 ((1 : Int) = 0 ∨ (1 : Int) = 1) ∧ Q 1 h))) : wpc k_X7_isLetter [] call mc ms fr Q X [] K 400 (pto 0 k_X7_isLetter) [some (pI i0)] [] h c s :=
  H
set_option maxRecDepth 100000 in
theorem v_X7_isDigit_0 (i0 : Int) (h : PH) (c s : Nat) (H : InR i0 ∧ InR 48 ∧ (i0 < 48 →
 ((0 : Int) = 0 ∨ (0 : Int) = 1) ∧ Q 0 h) ∧
(48 ≤ i0 →
 InR i0 ∧ InR 57 ∧ (57 < i0 →
 ((0 : Int) = 0 ∨ (0 : Int) = 1) ∧ Q 0 h) ∧
(i0 ≤ 57 →
 ((1 : Int) = 0 ∨ (1 : Int) = 1) ∧ Q 1 h))) : wpc k_X7_isDigit [] call mc ms fr Q X [] K 400 (pto 0 k_X7_isDigit) [some (pI i0)] [] h c s :=
  H
set_option maxRecDepth 100000 in
theorem v_X7_seen_0 (a0 : Nat) (i1 : Int) (h : PH) (c s : Nat) (H : hk h a0 = 8 ∧ InR i1 ∧ InR (hi h a0 20) ∧ (i1 < (hi h a0 20) →
 hk h a0 = 8 ∧ (hk h (hr h a0 16) = 20 ∨ hk h (hr h a0 16) = 26) ∧ (0 ≤ i1 ∧ i1 < (hl h (hr h a0 16) : Int)) ∧ Q (hi h (hr h a0 16) (Int.toNat i1)) h) ∧
((hi h a0 20) ≤ i1 →
 Q ((-1)) h)) : wpc k_X7_seen [] call mc ms fr Q X [] K 400 (pto 0 k_X7_seen) [some (pA a0), some (pI i1)] [] h c s :=
  H
set_option maxRecDepth 100000 in
theorem v_X7_fails_0 (a0 : Nat) (i1 : Int) (h : PH) (c s : Nat) (H : hk h a0 = 8 ∧ InR (hi h a0 25) ∧ ((hi h a0 25) = 0 →
 hk h a0 = 8 ∧ ∀ h1, h1 = hsi h a0 25 i1 →
 hk h1 a0 = 8 ∧ hk h1 a0 = 8 ∧ ∀ h2, h2 = hsi h1 a0 26 (hi h1 a0 22) →
 Q 0 h2) ∧
((hi h a0 25) ≠ 0 →
 Q 0 h)) : wpc k_X7_fails [] call mc ms fr Q X [] K 400 (pto 0 k_X7_fails) [some (pA a0), some (pI i1)] [] h c s :=
  H
set_option maxRecDepth 100000 in
theorem v_X7_failsIf_0 (a0 : Nat) (i1 : Int) (i2 : Int) (h : PH) (c s : Nat) (H : InR i1 ∧ (i1 = 0 →
 Q 0 h) ∧
(i1 ≠ 0 →
 hk h a0 = 8 ∧ call m_X7_fails [pA a0, pI i2] h (fun _ h1 =>
 Q 0 h1) X)) : wpc k_X7_failsIf [] call mc ms fr Q X [] K 400 (pto 0 k_X7_failsIf) [some (pA a0), some (pI i1), some (pI i2)] [] h c s :=
  H
set_option maxRecDepth 100000 in
theorem v_X7_token_0 (a0 : Nat) (z1 : Option PV) (h : PH) (c s : Nat) (H : hk h a0 = 8 ∧ hk h a0 = 8 ∧ call m_X7_seen [pA a0, pI (hi h a0 21)] h (fun x1 h1 =>
 InR x1 ∧ InR 32 ∧ (x1 = 32 →
 hk h1 a0 = 8 ∧ hk h1 a0 = 8 ∧ ∀ h2, h2 = hsi h1 a0 21 ((hi h1 a0 21) + 1) →
 K 0 [some (pA a0), z1] [] h2 c s) ∧
(x1 ≠ 32 →
 hk h1 a0 = 8 ∧ hk h1 a0 = 8 ∧ ∀ h3, h3 = hsi h1 a0 22 (hi h1 a0 21) →
 hk h3 a0 = 8 ∧ hk h3 a0 = 8 ∧ call m_X7_seen [pA a0, pI (hi h3 a0 21)] h3 (fun x4 h4 =>
 InR x4 ∧ InR ((-1)) ∧ (x4 = ((-1)) →
 hk h4 a0 = 8 ∧ ∀ h5, h5 = hsi h4 a0 23 0 →
 Q 0 h5) ∧
(x4 ≠ ((-1)) →
 call m_X7_isLetter [pI x4] h4 (fun x6 h6 =>
 InR x6 ∧ (x6 = 0 →
 call m_X7_isDigit [pI x4] h6 (fun x7 h7 =>
 InR x7 ∧ (x7 = 0 →
 InR x4 ∧ InR 59 ∧ (x4 = 59 →
 hk h7 a0 = 8 ∧ ∀ h8, h8 = hsi h7 a0 23 3 →
 hk h8 a0 = 8 ∧ hk h8 a0 = 8 ∧ ∀ h9, h9 = hsi h8 a0 21 ((hi h8 a0 21) + 1) →
 Q 0 h9) ∧
(x4 ≠ 59 →
 hk h7 a0 = 8 ∧ ∀ h10, h10 = hsi h7 a0 23 4 →
 hk h10 a0 = 8 ∧ hk h10 a0 = 8 ∧ ∀ h11, h11 = hsi h10 a0 21 ((hi h10 a0 21) + 1) →
 Q 0 h11)) ∧
(x7 ≠ 0 →
 hk h7 a0 = 8 ∧ ∀ h12, h12 = hsi h7 a0 24 0 →
 K 128 [some (pA a0), some (pI x4)] [] h12 c s)) X) ∧
(x6 ≠ 0 →
 K 63 [some (pA a0), some (pI x4)] [] h6 c s)) X)) X)) X) : wpc k_X7_token [] call mc ms fr Q X [0, 63, 128] K 400 (pto 0 k_X7_token) [some (pA a0), z1] [] h c s :=
  H
set_option maxRecDepth 100000 in
theorem v_X7_token_63 (a0 : Nat) (i1 : Int) (h : PH) (c s : Nat) (H : hk h a0 = 8 ∧ hk h a0 = 8 ∧ call m_X7_seen [pA a0, pI (hi h a0 21)] h (fun x1 h1 =>
 call m_X7_isLetter [pI x1] h1 (fun x2 h2 =>
 InR x2 ∧ (x2 = 0 →
 hk h2 a0 = 8 ∧ hk h2 a0 = 8 ∧ InR ((hi h2 a0 21) - (hi h2 a0 22)) ∧ InR 7 ∧ (7 < ((hi h2 a0 21) - (hi h2 a0 22)) →
 hk h2 a0 = 8 ∧ ∀ h3, h3 = hsi h2 a0 23 4 →
 Q 0 h3) ∧
(((hi h2 a0 21) - (hi h2 a0 22)) ≤ 7 →
 hk h2 a0 = 8 ∧ ∀ h4, h4 = hsi h2 a0 23 1 →
 Q 0 h4)) ∧
(x2 ≠ 0 →
 hk h2 a0 = 8 ∧ hk h2 a0 = 8 ∧ ∀ h5, h5 = hsi h2 a0 21 ((hi h2 a0 21) + 1) →
 K 63 [some (pA a0), some (pI i1)] [] h5 c s)) X) X) : wpc k_X7_token [] call mc ms fr Q X [0, 63, 128] K 400 (pto 63 k_X7_token) [some (pA a0), some (pI i1)] [] h c s :=
  H
set_option maxRecDepth 100000 in
theorem v_X7_token_128 (a0 : Nat) (i1 : Int) (h : PH) (c s : Nat) (H : hk h a0 = 8 ∧ hk h a0 = 8 ∧ call m_X7_seen [pA a0, pI (hi h a0 21)] h (fun x1 h1 =>
 call m_X7_isDigit [pI x1] h1 (fun x2 h2 =>
 InR x2 ∧ (x2 = 0 →
 hk h2 a0 = 8 ∧ hk h2 a0 = 8 ∧ InR ((hi h2 a0 21) - (hi h2 a0 22)) ∧ InR 3 ∧ (3 < ((hi h2 a0 21) - (hi h2 a0 22)) →
 hk h2 a0 = 8 ∧ ∀ h3, h3 = hsi h2 a0 23 4 →
 Q 0 h3) ∧
(((hi h2 a0 21) - (hi h2 a0 22)) ≤ 3 →
 hk h2 a0 = 8 ∧ ∀ h4, h4 = hsi h2 a0 23 2 →
 Q 0 h4)) ∧
(x2 ≠ 0 →
 hk h2 a0 = 8 ∧ hk h2 a0 = 8 ∧ InR ((hi h2 a0 21) - (hi h2 a0 22)) ∧ InR 3 ∧ (((hi h2 a0 21) - (hi h2 a0 22)) < 3 →
 hk h2 a0 = 8 ∧ hk h2 a0 = 8 ∧ hk h2 a0 = 8 ∧ call m_X7_seen [pA a0, pI (hi h2 a0 21)] h2 (fun x5 h5 =>
 hk h5 a0 = 8 ∧ ∀ h6, h6 = hsi h5 a0 24 (((10 * (hi h2 a0 24)) + x5) - 48) →
 hk h6 a0 = 8 ∧ hk h6 a0 = 8 ∧ ∀ h7, h7 = hsi h6 a0 21 ((hi h6 a0 21) + 1) →
 K 128 [some (pA a0), some (pI i1)] [] h7 c s) X) ∧
(3 ≤ ((hi h2 a0 21) - (hi h2 a0 22)) →
 hk h2 a0 = 8 ∧ ∀ h8, h8 = hsi h2 a0 24 0 →
 hk h8 a0 = 8 ∧ hk h8 a0 = 8 ∧ ∀ h9, h9 = hsi h8 a0 21 ((hi h8 a0 21) + 1) →
 K 128 [some (pA a0), some (pI i1)] [] h9 c s))) X) X) : wpc k_X7_token [] call mc ms fr Q X [0, 63, 128] K 400 (pto 128 k_X7_token) [some (pA a0), some (pI i1)] [] h c s :=
  H
end VCS
theorem S_X7_isLetter {d : Nat} {h : PH} {Q : Int → PH → Prop} {X : Nat → PH → Prop} {u : Int}  (hvu : InR u) (H : ∀ x : Int, x = 1 ∧ isL u ∨ x = 0 ∧ ¬ isL u → Q x h) : RUN GQ (d + 1) m_X7_isLetter [pI u] h Q X := by
  rw [e_X7_isLetter]
  refine WP.of (RUN.mono GQ _) (cuts := []) (n := 400) (v_X7_isLetter_0 _ _ _ _ ?_)
  refine ⟨ir (by omega) (by omega), ir (by omega) (by omega), fun c3 => ?_, fun c3 => ?_⟩
  · refine ⟨(by omega), ?_⟩
    exact H _ (by omega)
  · refine ⟨ir (by omega) (by omega), ir (by omega) (by omega), fun c9 => ?_, fun c9 => ?_⟩
    · refine ⟨(by omega), ?_⟩
      exact H _ (by omega)
    · refine ⟨(by omega), ?_⟩
      exact H _ (by omega)
theorem S_X7_isDigit {d : Nat} {h : PH} {Q : Int → PH → Prop} {X : Nat → PH → Prop} {u : Int}  (hvu : InR u) (H : ∀ x : Int, x = 1 ∧ isD u ∨ x = 0 ∧ ¬ isD u → Q x h) : RUN GQ (d + 1) m_X7_isDigit [pI u] h Q X := by
  rw [e_X7_isDigit]
  refine WP.of (RUN.mono GQ _) (cuts := []) (n := 400) (v_X7_isDigit_0 _ _ _ _ ?_)
  refine ⟨ir (by omega) (by omega), ir (by omega) (by omega), fun c3 => ?_, fun c3 => ?_⟩
  · refine ⟨(by omega), ?_⟩
    exact H _ (by omega)
  · refine ⟨ir (by omega) (by omega), ir (by omega) (by omega), fun c9 => ?_, fun c9 => ?_⟩
    · refine ⟨(by omega), ?_⟩
      exact H _ (by omega)
    · refine ⟨(by omega), ?_⟩
      exact H _ (by omega)
theorem S_X7_seen {d b : Nat} {h0 h : PH} {D : Nat → Int → Int} {s : Int → Int} {t : Int} {Q : Int → PH → Prop} {X : Nat → PH → Prop} {k : Int} (M : Mt b h0 h D s t) (hk0 : 0 ≤ k) (hk1 : InR k) (hL : 0 ≤ D 0 20 ∧ D 0 20 ≤ 700) (H : ∀ x : Int, x = (bt D k) → Q x h) : RUN GQ (d + 1) m_X7_seen [pA b, pI k] h Q X := by
  rw [e_X7_seen]
  refine WP.of (RUN.mono GQ _) (cuts := []) (n := 400) (v_X7_seen_0 _ _ _ _ _ ?_)
  refine ⟨M.k0, ?_⟩
  try rw [M.f20]
  refine ⟨ir (by omega) (by omega), ir (by omega) (by omega), fun c5 => ?_, fun c5 => ?_⟩
  · refine ⟨M.k0, ?_⟩
    try rw [M.r16]
    refine M.ld10 (by omega) (by omega) (fun er => ?_)
    try rw [er]
    clear er
    refine H _ ?_
    unfold bt
    first
    | (rw [if_pos (by omega)]; done)
    | (rw [if_neg (by omega)]; done)
  · refine H _ ?_
    unfold bt
    first
    | (rw [if_pos (by omega)]; done)
    | (rw [if_neg (by omega)]; done)
theorem S_X7_fails {d b : Nat} {h0 h : PH} {D : Nat → Int → Int} {s : Int → Int} {t : Int} {Q : Int → PH → Prop} {X : Nat → PH → Prop} {w : Int} (M : Mt b h0 h D s t) (hw5 : InR (D 0 25)) (H : ∀ (x : Int) h', x = 0 → Mt b h0 h' (flD D w) s t → Q x h') : RUN GQ (d + 1) m_X7_fails [pA b, pI w] h Q X := by
  rw [e_X7_fails]
  refine WP.of (RUN.mono GQ _) (cuts := []) (n := 400) (v_X7_fails_0 _ _ _ _ _ ?_)
  refine ⟨M.k0, ?_⟩
  try rw [M.f25]
  refine ⟨ir (by omega) (by omega), fun c4 => ?_, fun c4 => ?_⟩
  · refine M.p25 (fun h9 M9 => ?_)
    refine ⟨M9.k0, ?_⟩
    try rw [M9.f22]
    rw [dst_ne (by decide)]
    refine M9.p26 (fun h17 M17 => ?_)
    refine H _ _ rfl (M17.castD ?_)
    unfold flD
    first
    | (rw [if_pos (by omega)]; done)
    | (rw [if_neg (by omega)]; done)
  · refine H _ _ rfl (M.castD ?_)
    unfold flD
    first
    | (rw [if_pos (by omega)]; done)
    | (rw [if_neg (by omega)]; done)
theorem S_X7_failsIf {d b : Nat} {h0 h : PH} {D : Nat → Int → Int} {s : Int → Int} {t : Int} {Q : Int → PH → Prop} {X : Nat → PH → Prop} {z w : Int} (M : Mt b h0 h D s t) (hz : z = 0 ∨ z = 1) (hw5 : InR (D 0 25)) (H : ∀ (x : Int) h', x = 0 → Mt b h0 h' (fiD D z w) s t → Q x h') : RUN GQ (d + 2) m_X7_failsIf [pA b, pI z, pI w] h Q X := by
  rw [e_X7_failsIf]
  refine WP.of (RUN.mono GQ _) (cuts := []) (n := 400) (v_X7_failsIf_0 _ _ _ _ _ _ ?_)
  refine ⟨ir (by omega) (by omega), fun c1 => ?_, fun c1 => ?_⟩
  · refine H _ _ rfl (M.castD ?_)
    unfold fiD
    first
    | (rw [if_pos (by omega)]; done)
    | (rw [if_neg (by omega)]; done)
  · refine ⟨M.k0, ?_⟩
    refine S_X7_fails M (by exact hw5) (fun x6 h6 e6 M6 => ?_)
    subst e6
    refine H _ _ rfl (M6.castD ?_)
    unfold fiD
    first
    | (rw [if_pos (by omega)]; done)
    | (rw [if_neg (by omega)]; done)
theorem L_X7_token_128 {d b : Nat} {h0 : PH} {s : Int → Int} {t : Int} {Q : Int → PH → Prop} {X : Nat → PH → Prop} {E : Nat → Int → Int} (hL : 0 ≤ E 0 20 ∧ E 0 20 ≤ 700) (hB : BY E) {c : Int} (hPP : 0 ≤ tkP E) (hc : 48 ≤ bt E (tkP E) ∧ bt E (tkP E) ≤ 57) : ∀ (n : Nat) (D : Nat → Int → Int) (h : PH), (Mt b h0 h D s t) → (TKR E D) → (D 0 22 = tkP E) → (tkP E ≤ D 0 21 ∧ D 0 21 + n = E 0 20) → (dgn E n (D 0 21) = dgn E (E 0 20 - tkP E).toNat (tkP E)) → (dgv E (tkP E) n (D 0 21) (D 0 24) = dgv E (tkP E) (E 0 20 - tkP E).toNat (tkP E) 0) → (∀ (x : Int) h', x = 0 → Mt b h0 h' (tokD E) s t → Q x h') → WP k_X7_token [] (RUN GQ (d + 1)) 0 0 (d + 2) Q X 128 [some (pA b), some (pI c)] [] h 0 0 := by
  intro n
  induction n with
  | zero =>
    intro D h M hT h22 hn0 hP hV H
    have hL1 := hT.L
    refine WP.of (RUN.mono GQ _) (cuts := [0, 63, 128]) (n := 400) (v_X7_token_128 _ _ _ _ _ ?_)
    refine ⟨M.k0, ?_⟩
    try rw [M.f21]
    refine ⟨M.k0, ?_⟩
    refine S_X7_seen M (by omega) (by omega) (by omega) (fun x133 e133 => ?_)
    rw [hT.bt] at e133
    have r133 := bt_rng hB hL.2 (k := D 0 21) (by omega)
    refine S_X7_isDigit (by omega) (fun x136 e136 => ?_)
    refine ⟨ir (by omega) (by omega), fun c139 => ?_, fun c139 => ?_⟩
    · have p1 : D 0 21 = dgn E (E 0 20 - tkP E).toNat (tkP E) := by first | exact hP | (rw [dgn, if_neg (fun z : isD (bt E (D 0 21)) => by omega)] at hP; exact hP)
      have v1 : D 0 24 = dgv E (tkP E) (E 0 20 - tkP E).toNat (tkP E) 0 := by first | exact hV | (rw [dgv, if_neg (fun z : isD (bt E (D 0 21)) => by omega)] at hV; exact hV)
      refine ⟨M.k0, ?_⟩
      try rw [M.f21]
      refine ⟨M.k0, ?_⟩
      try rw [M.f22]
      refine ⟨ir (by omega) (by omega), ir (by omega) (by omega), fun c206 => ?_, fun c206 => ?_⟩
      · refine M.p23 (fun h214 M214 => ?_)
        obtain ⟨K, hK, MK⟩ := M214.nm
        have TK := hT.put hK (by decide)
        have K21 := (dF hK).2 21 (by decide)
        have K22 := (dF hK).2 22 (by decide)
        have K23 := (dF hK).1
        have K24 := (dF hK).2 24 (by decide)
        have MZ := MK.castD (TK.tok (by unfold tkN; (repeat' split) <;> omega) (by omega) (by unfold tkS; (repeat' split) <;> omega) (by unfold tkV; (repeat' split) <;> omega)).symm
        first
        | exact H _ _ rfl MZ
        | (obtain ⟨F, hF, MF⟩ := MK.nm
           have TF := TK.put hF (by decide)
           have F21 := (dF hF).1
           have F22 := (dF hF).2 22 (by decide)
           have F23 := (dF hF).2 23 (by decide)
           have F24 := (dF hF).2 24 (by decide)
           have MZ := MF.castD (TF.tok (by unfold tkN; (repeat' split) <;> omega) (by omega) (by unfold tkS; (repeat' split) <;> omega) (by unfold tkV; (repeat' split) <;> omega)).symm
           exact H _ _ rfl MZ)
      · refine M.p23 (fun h214 M214 => ?_)
        obtain ⟨K, hK, MK⟩ := M214.nm
        have TK := hT.put hK (by decide)
        have K21 := (dF hK).2 21 (by decide)
        have K22 := (dF hK).2 22 (by decide)
        have K23 := (dF hK).1
        have K24 := (dF hK).2 24 (by decide)
        have MZ := MK.castD (TK.tok (by unfold tkN; (repeat' split) <;> omega) (by omega) (by unfold tkS; (repeat' split) <;> omega) (by unfold tkV; (repeat' split) <;> omega)).symm
        first
        | exact H _ _ rfl MZ
        | (obtain ⟨F, hF, MF⟩ := MK.nm
           have TF := TK.put hF (by decide)
           have F21 := (dF hF).1
           have F22 := (dF hF).2 22 (by decide)
           have F23 := (dF hF).2 23 (by decide)
           have F24 := (dF hF).2 24 (by decide)
           have MZ := MF.castD (TF.tok (by unfold tkN; (repeat' split) <;> omega) (by omega) (by unfold tkS; (repeat' split) <;> omega) (by unfold tkV; (repeat' split) <;> omega)).symm
           exact H _ _ rfl MZ)
    · exfalso; omega
  | succ n ih =>
    intro D h M hT h22 hn0 hP hV H
    have hL1 := hT.L
    refine WP.of (RUN.mono GQ _) (cuts := [0, 63, 128]) (n := 400) (v_X7_token_128 _ _ _ _ _ ?_)
    refine ⟨M.k0, ?_⟩
    try rw [M.f21]
    refine ⟨M.k0, ?_⟩
    refine S_X7_seen M (by omega) (by omega) (by omega) (fun x133 e133 => ?_)
    rw [hT.bt] at e133
    have r133 := bt_rng hB hL.2 (k := D 0 21) (by omega)
    refine S_X7_isDigit (by omega) (fun x136 e136 => ?_)
    refine ⟨ir (by omega) (by omega), fun c139 => ?_, fun c139 => ?_⟩
    · have p1 : D 0 21 = dgn E (E 0 20 - tkP E).toNat (tkP E) := by first | exact hP | (rw [dgn, if_neg (fun z : isD (bt E (D 0 21)) => by omega)] at hP; exact hP)
      have v1 : D 0 24 = dgv E (tkP E) (E 0 20 - tkP E).toNat (tkP E) 0 := by first | exact hV | (rw [dgv, if_neg (fun z : isD (bt E (D 0 21)) => by omega)] at hV; exact hV)
      refine ⟨M.k0, ?_⟩
      try rw [M.f21]
      refine ⟨M.k0, ?_⟩
      try rw [M.f22]
      refine ⟨ir (by omega) (by omega), ir (by omega) (by omega), fun c206 => ?_, fun c206 => ?_⟩
      · refine M.p23 (fun h214 M214 => ?_)
        obtain ⟨K, hK, MK⟩ := M214.nm
        have TK := hT.put hK (by decide)
        have K21 := (dF hK).2 21 (by decide)
        have K22 := (dF hK).2 22 (by decide)
        have K23 := (dF hK).1
        have K24 := (dF hK).2 24 (by decide)
        have MZ := MK.castD (TK.tok (by unfold tkN; (repeat' split) <;> omega) (by omega) (by unfold tkS; (repeat' split) <;> omega) (by unfold tkV; (repeat' split) <;> omega)).symm
        first
        | exact H _ _ rfl MZ
        | (obtain ⟨F, hF, MF⟩ := MK.nm
           have TF := TK.put hF (by decide)
           have F21 := (dF hF).1
           have F22 := (dF hF).2 22 (by decide)
           have F23 := (dF hF).2 23 (by decide)
           have F24 := (dF hF).2 24 (by decide)
           have MZ := MF.castD (TF.tok (by unfold tkN; (repeat' split) <;> omega) (by omega) (by unfold tkS; (repeat' split) <;> omega) (by unfold tkV; (repeat' split) <;> omega)).symm
           exact H _ _ rfl MZ)
      · refine M.p23 (fun h214 M214 => ?_)
        obtain ⟨K, hK, MK⟩ := M214.nm
        have TK := hT.put hK (by decide)
        have K21 := (dF hK).2 21 (by decide)
        have K22 := (dF hK).2 22 (by decide)
        have K23 := (dF hK).1
        have K24 := (dF hK).2 24 (by decide)
        have MZ := MK.castD (TK.tok (by unfold tkN; (repeat' split) <;> omega) (by omega) (by unfold tkS; (repeat' split) <;> omega) (by unfold tkV; (repeat' split) <;> omega)).symm
        first
        | exact H _ _ rfl MZ
        | (obtain ⟨F, hF, MF⟩ := MK.nm
           have TF := TK.put hF (by decide)
           have F21 := (dF hF).1
           have F22 := (dF hF).2 22 (by decide)
           have F23 := (dF hF).2 23 (by decide)
           have F24 := (dF hF).2 24 (by decide)
           have MZ := MF.castD (TF.tok (by unfold tkN; (repeat' split) <;> omega) (by omega) (by unfold tkS; (repeat' split) <;> omega) (by unfold tkV; (repeat' split) <;> omega)).symm
           exact H _ _ rfl MZ)
    · refine ⟨M.k0, ?_⟩
      try rw [M.f21]
      refine ⟨M.k0, ?_⟩
      try rw [M.f22]
      refine ⟨ir (by omega) (by omega), ir (by omega) (by omega), fun c153 => ?_, fun c153 => ?_⟩
      · refine ⟨M.k0, ?_⟩
        try rw [M.f24]
        refine ⟨M.k0, ?_⟩
        try rw [M.f21]
        refine ⟨M.k0, ?_⟩
        refine S_X7_seen M (by omega) (by omega) (by omega) (fun x168 e168 => ?_)
        rw [hT.bt] at e168
        refine M.p24 (fun h179 M179 => ?_)
        obtain ⟨J, hJ, MJ⟩ := M179.nm
        have TJ := hT.put hJ (by decide)
        have J21 := (dF hJ).2 21 (by decide)
        have J22 := (dF hJ).2 22 (by decide)
        have J23 := (dF hJ).2 23 (by decide)
        have J24 := (dF hJ).1
        refine ⟨MJ.k0, ?_⟩
        try rw [MJ.f21]
        refine MJ.p21 (fun h189 M189 => ?_)
        obtain ⟨F, hF, MF⟩ := M189.nm
        have TF := TJ.put hF (by decide)
        have F21 := (dF hF).1
        have F22 := (dF hF).2 22 (by decide)
        have F23 := (dF hF).2 23 (by decide)
        have F24 := (dF hF).2 24 (by decide)
        refine ih _ _ MF (by exact TF) (by omega) (by omega) (by rw [F21, J21]; rw [dgn, if_pos (⟨by omega, by omega⟩ : isD (bt E (D 0 21)))] at hP; exact hP) (by rw [dgv, if_pos (⟨by omega, by omega⟩ : isD (bt E (D 0 21)))] at hV; first | (rw [if_pos (by omega)] at hV; rw [F21, J21, show F 0 24 = 10 * D 0 24 + bt E (D 0 21) - 48 by omega]; exact hV) | (rw [if_neg (by omega)] at hV; rw [F21, J21, show F 0 24 = 0 by omega]; exact hV)) ?_
        exact H
      · refine M.p24 (fun h179 M179 => ?_)
        obtain ⟨J, hJ, MJ⟩ := M179.nm
        have TJ := hT.put hJ (by decide)
        have J21 := (dF hJ).2 21 (by decide)
        have J22 := (dF hJ).2 22 (by decide)
        have J23 := (dF hJ).2 23 (by decide)
        have J24 := (dF hJ).1
        refine ⟨MJ.k0, ?_⟩
        try rw [MJ.f21]
        refine MJ.p21 (fun h189 M189 => ?_)
        obtain ⟨F, hF, MF⟩ := M189.nm
        have TF := TJ.put hF (by decide)
        have F21 := (dF hF).1
        have F22 := (dF hF).2 22 (by decide)
        have F23 := (dF hF).2 23 (by decide)
        have F24 := (dF hF).2 24 (by decide)
        refine ih _ _ MF (by exact TF) (by omega) (by omega) (by rw [F21, J21]; rw [dgn, if_pos (⟨by omega, by omega⟩ : isD (bt E (D 0 21)))] at hP; exact hP) (by rw [dgv, if_pos (⟨by omega, by omega⟩ : isD (bt E (D 0 21)))] at hV; first | (rw [if_pos (by omega)] at hV; rw [F21, J21, show F 0 24 = 10 * D 0 24 + bt E (D 0 21) - 48 by omega]; exact hV) | (rw [if_neg (by omega)] at hV; rw [F21, J21, show F 0 24 = 0 by omega]; exact hV)) ?_
        exact H
theorem L_X7_token_63 {d b : Nat} {h0 : PH} {s : Int → Int} {t : Int} {Q : Int → PH → Prop} {X : Nat → PH → Prop} {E : Nat → Int → Int} (hL : 0 ≤ E 0 20 ∧ E 0 20 ≤ 700) (hB : BY E) {c : Int} (hPP : 0 ≤ tkP E) (hc : 97 ≤ bt E (tkP E) ∧ bt E (tkP E) ≤ 122) : ∀ (n : Nat) (D : Nat → Int → Int) (h : PH), (Mt b h0 h D s t) → (TKR E D) → (D 0 24 = E 0 24) → (D 0 22 = tkP E) → (tkP E ≤ D 0 21 ∧ D 0 21 + n = E 0 20) → (ltl E n (D 0 21) = ltl E (E 0 20 - tkP E).toNat (tkP E)) → (∀ (x : Int) h', x = 0 → Mt b h0 h' (tokD E) s t → Q x h') → WP k_X7_token [] (RUN GQ (d + 1)) 0 0 (d + 2) Q X 63 [some (pA b), some (pI c)] [] h 0 0 := by
  intro n
  induction n with
  | zero =>
    intro D h M hT h24 h22 hn0 hP H
    have hL1 := hT.L
    refine WP.of (RUN.mono GQ _) (cuts := [0, 63, 128]) (n := 400) (v_X7_token_63 _ _ _ _ _ ?_)
    refine ⟨M.k0, ?_⟩
    try rw [M.f21]
    refine ⟨M.k0, ?_⟩
    refine S_X7_seen M (by omega) (by omega) (by omega) (fun x68 e68 => ?_)
    rw [hT.bt] at e68
    have r68 := bt_rng hB hL.2 (k := D 0 21) (by omega)
    refine S_X7_isLetter (by omega) (fun x71 e71 => ?_)
    refine ⟨ir (by omega) (by omega), fun c74 => ?_, fun c74 => ?_⟩
    · have p1 : D 0 21 = ltl E (E 0 20 - tkP E).toNat (tkP E) := by first | exact hP | (rw [ltl, if_neg (fun z : isL (bt E (D 0 21)) => by omega)] at hP; exact hP)
      refine ⟨M.k0, ?_⟩
      try rw [M.f21]
      refine ⟨M.k0, ?_⟩
      try rw [M.f22]
      refine ⟨ir (by omega) (by omega), ir (by omega) (by omega), fun c102 => ?_, fun c102 => ?_⟩
      · refine M.p23 (fun h110 M110 => ?_)
        obtain ⟨K, hK, MK⟩ := M110.nm
        have TK := hT.put hK (by decide)
        have K21 := (dF hK).2 21 (by decide)
        have K22 := (dF hK).2 22 (by decide)
        have K23 := (dF hK).1
        have K24 := (dF hK).2 24 (by decide)
        have MZ := MK.castD (TK.tok (by unfold tkN; (repeat' split) <;> omega) (by omega) (by unfold tkS; (repeat' split) <;> omega) (by unfold tkV; (repeat' split) <;> omega)).symm
        first
        | exact H _ _ rfl MZ
        | (obtain ⟨F, hF, MF⟩ := MK.nm
           have TF := TK.put hF (by decide)
           have F21 := (dF hF).1
           have F22 := (dF hF).2 22 (by decide)
           have F23 := (dF hF).2 23 (by decide)
           have F24 := (dF hF).2 24 (by decide)
           have MZ := MF.castD (TF.tok (by unfold tkN; (repeat' split) <;> omega) (by omega) (by unfold tkS; (repeat' split) <;> omega) (by unfold tkV; (repeat' split) <;> omega)).symm
           exact H _ _ rfl MZ)
      · refine M.p23 (fun h110 M110 => ?_)
        obtain ⟨K, hK, MK⟩ := M110.nm
        have TK := hT.put hK (by decide)
        have K21 := (dF hK).2 21 (by decide)
        have K22 := (dF hK).2 22 (by decide)
        have K23 := (dF hK).1
        have K24 := (dF hK).2 24 (by decide)
        have MZ := MK.castD (TK.tok (by unfold tkN; (repeat' split) <;> omega) (by omega) (by unfold tkS; (repeat' split) <;> omega) (by unfold tkV; (repeat' split) <;> omega)).symm
        first
        | exact H _ _ rfl MZ
        | (obtain ⟨F, hF, MF⟩ := MK.nm
           have TF := TK.put hF (by decide)
           have F21 := (dF hF).1
           have F22 := (dF hF).2 22 (by decide)
           have F23 := (dF hF).2 23 (by decide)
           have F24 := (dF hF).2 24 (by decide)
           have MZ := MF.castD (TF.tok (by unfold tkN; (repeat' split) <;> omega) (by omega) (by unfold tkS; (repeat' split) <;> omega) (by unfold tkV; (repeat' split) <;> omega)).symm
           exact H _ _ rfl MZ)
    · exfalso; omega
  | succ n ih =>
    intro D h M hT h24 h22 hn0 hP H
    have hL1 := hT.L
    refine WP.of (RUN.mono GQ _) (cuts := [0, 63, 128]) (n := 400) (v_X7_token_63 _ _ _ _ _ ?_)
    refine ⟨M.k0, ?_⟩
    try rw [M.f21]
    refine ⟨M.k0, ?_⟩
    refine S_X7_seen M (by omega) (by omega) (by omega) (fun x68 e68 => ?_)
    rw [hT.bt] at e68
    have r68 := bt_rng hB hL.2 (k := D 0 21) (by omega)
    refine S_X7_isLetter (by omega) (fun x71 e71 => ?_)
    refine ⟨ir (by omega) (by omega), fun c74 => ?_, fun c74 => ?_⟩
    · have p1 : D 0 21 = ltl E (E 0 20 - tkP E).toNat (tkP E) := by first | exact hP | (rw [ltl, if_neg (fun z : isL (bt E (D 0 21)) => by omega)] at hP; exact hP)
      refine ⟨M.k0, ?_⟩
      try rw [M.f21]
      refine ⟨M.k0, ?_⟩
      try rw [M.f22]
      refine ⟨ir (by omega) (by omega), ir (by omega) (by omega), fun c102 => ?_, fun c102 => ?_⟩
      · refine M.p23 (fun h110 M110 => ?_)
        obtain ⟨K, hK, MK⟩ := M110.nm
        have TK := hT.put hK (by decide)
        have K21 := (dF hK).2 21 (by decide)
        have K22 := (dF hK).2 22 (by decide)
        have K23 := (dF hK).1
        have K24 := (dF hK).2 24 (by decide)
        have MZ := MK.castD (TK.tok (by unfold tkN; (repeat' split) <;> omega) (by omega) (by unfold tkS; (repeat' split) <;> omega) (by unfold tkV; (repeat' split) <;> omega)).symm
        first
        | exact H _ _ rfl MZ
        | (obtain ⟨F, hF, MF⟩ := MK.nm
           have TF := TK.put hF (by decide)
           have F21 := (dF hF).1
           have F22 := (dF hF).2 22 (by decide)
           have F23 := (dF hF).2 23 (by decide)
           have F24 := (dF hF).2 24 (by decide)
           have MZ := MF.castD (TF.tok (by unfold tkN; (repeat' split) <;> omega) (by omega) (by unfold tkS; (repeat' split) <;> omega) (by unfold tkV; (repeat' split) <;> omega)).symm
           exact H _ _ rfl MZ)
      · refine M.p23 (fun h110 M110 => ?_)
        obtain ⟨K, hK, MK⟩ := M110.nm
        have TK := hT.put hK (by decide)
        have K21 := (dF hK).2 21 (by decide)
        have K22 := (dF hK).2 22 (by decide)
        have K23 := (dF hK).1
        have K24 := (dF hK).2 24 (by decide)
        have MZ := MK.castD (TK.tok (by unfold tkN; (repeat' split) <;> omega) (by omega) (by unfold tkS; (repeat' split) <;> omega) (by unfold tkV; (repeat' split) <;> omega)).symm
        first
        | exact H _ _ rfl MZ
        | (obtain ⟨F, hF, MF⟩ := MK.nm
           have TF := TK.put hF (by decide)
           have F21 := (dF hF).1
           have F22 := (dF hF).2 22 (by decide)
           have F23 := (dF hF).2 23 (by decide)
           have F24 := (dF hF).2 24 (by decide)
           have MZ := MF.castD (TF.tok (by unfold tkN; (repeat' split) <;> omega) (by omega) (by unfold tkS; (repeat' split) <;> omega) (by unfold tkV; (repeat' split) <;> omega)).symm
           exact H _ _ rfl MZ)
    · refine ⟨M.k0, ?_⟩
      try rw [M.f21]
      refine M.p21 (fun h84 M84 => ?_)
      obtain ⟨F, hF, MF⟩ := M84.nm
      have TF := hT.put hF (by decide)
      have F21 := (dF hF).1
      have F22 := (dF hF).2 22 (by decide)
      have F23 := (dF hF).2 23 (by decide)
      have F24 := (dF hF).2 24 (by decide)
      refine ih _ _ MF (by exact TF) (by omega) (by omega) (by omega) (by rw [F21]; rw [ltl, if_pos (⟨by omega, by omega⟩ : isL (bt E (D 0 21)))] at hP; exact hP) ?_
      exact H
theorem L_X7_token_0 {d b : Nat} {h0 : PH} {s : Int → Int} {t : Int} {Q : Int → PH → Prop} {X : Nat → PH → Prop} {E : Nat → Int → Int} (hL : 0 ≤ E 0 20 ∧ E 0 20 ≤ 700) (hB : BY E) : ∀ (n : Nat) (z1 : Option PV) (D : Nat → Int → Int) (h : PH), (Mt b h0 h D s t) → (TKR E D) → (D 0 24 = E 0 24) → (0 ≤ D 0 21 ∧ D 0 21 + n = E 0 20) → (skl E n (D 0 21) = tkP E) → (∀ (x : Int) h', x = 0 → Mt b h0 h' (tokD E) s t → Q x h') → WP k_X7_token [] (RUN GQ (d + 1)) 0 0 (d + 2) Q X 0 [some (pA b), z1] [] h 0 0 := by
  intro n
  induction n with
  | zero =>
    intro z1 D h M hT h24 hn0 hP H
    have hL1 := hT.L
    refine WP.of (RUN.mono GQ _) (cuts := [0, 63, 128]) (n := 400) (v_X7_token_0 _ _ _ _ _ ?_)
    refine ⟨M.k0, ?_⟩
    try rw [M.f21]
    refine ⟨M.k0, ?_⟩
    refine S_X7_seen M (by omega) (by omega) (by omega) (fun x5 e5 => ?_)
    rw [hT.bt] at e5
    have r5 := bt_rng hB hL.2 (k := D 0 21) (by omega)
    refine ⟨ir (by omega) (by omega), ir (by omega) (by omega), fun c10 => ?_, fun c10 => ?_⟩
    · exfalso; omega
    · have p0 : D 0 21 = tkP E := by first | exact hP | (rw [skl, if_neg (by omega)] at hP; exact hP)
      refine ⟨M.k0, ?_⟩
      try rw [M.f21]
      refine M.p22 (fun h31 M31 => ?_)
      obtain ⟨G, hG, MG⟩ := M31.nm
      have TG := hT.put hG (by decide)
      have G21 := (dF hG).2 21 (by decide)
      have G22 := (dF hG).1
      have G23 := (dF hG).2 23 (by decide)
      have G24 := (dF hG).2 24 (by decide)
      have hL2 := TG.L
      refine ⟨MG.k0, ?_⟩
      try rw [MG.f21]
      refine ⟨MG.k0, ?_⟩
      refine S_X7_seen MG (by omega) (by omega) (by omega) (fun x39 e39 => ?_)
      rw [TG.bt, G21, p0] at e39
      have r39 := bt_rng hB hL.2 (k := tkP E) (by omega)
      refine ⟨ir (by omega) (by omega), ir (by omega) (by omega), fun c45 => ?_, fun c45 => ?_⟩
      · refine MG.p23 (fun h50 M50 => ?_)
        obtain ⟨K, hK, MK⟩ := M50.nm
        have TK := TG.put hK (by decide)
        have K21 := (dF hK).2 21 (by decide)
        have K22 := (dF hK).2 22 (by decide)
        have K23 := (dF hK).1
        have K24 := (dF hK).2 24 (by decide)
        have MZ := MK.castD (TK.tok (by unfold tkN; (repeat' split) <;> omega) (by omega) (by unfold tkS; (repeat' split) <;> omega) (by unfold tkV; (repeat' split) <;> omega)).symm
        first
        | exact H _ _ rfl MZ
        | (obtain ⟨F, hF, MF⟩ := MK.nm
           have TF := TK.put hF (by decide)
           have F21 := (dF hF).1
           have F22 := (dF hF).2 22 (by decide)
           have F23 := (dF hF).2 23 (by decide)
           have F24 := (dF hF).2 24 (by decide)
           have MZ := MF.castD (TF.tok (by unfold tkN; (repeat' split) <;> omega) (by omega) (by unfold tkS; (repeat' split) <;> omega) (by unfold tkV; (repeat' split) <;> omega)).symm
           exact H _ _ rfl MZ)
      · refine S_X7_isLetter (by omega) (fun x57 e57 => ?_)
        refine ⟨ir (by omega) (by omega), fun c60 => ?_, fun c60 => ?_⟩
        · refine S_X7_isDigit (by omega) (fun x117 e117 => ?_)
          refine ⟨ir (by omega) (by omega), fun c120 => ?_, fun c120 => ?_⟩
          · refine ⟨ir (by omega) (by omega), ir (by omega) (by omega), fun c224 => ?_, fun c224 => ?_⟩
            · refine MG.p23 (fun h232 M232 => ?_)
              obtain ⟨K, hK, MK⟩ := M232.nm
              have TK := TG.put hK (by decide)
              have K21 := (dF hK).2 21 (by decide)
              have K22 := (dF hK).2 22 (by decide)
              have K23 := (dF hK).1
              have K24 := (dF hK).2 24 (by decide)
              refine ⟨MK.k0, ?_⟩
              try rw [MK.f21]
              refine MK.p21 (fun h242 M242 => ?_)
              first
              | exact H _ _ rfl MZ
              | (obtain ⟨F, hF, MF⟩ := M242.nm
                 have TF := TK.put hF (by decide)
                 have F21 := (dF hF).1
                 have F22 := (dF hF).2 22 (by decide)
                 have F23 := (dF hF).2 23 (by decide)
                 have F24 := (dF hF).2 24 (by decide)
                 have MZ := MF.castD (TF.tok (by unfold tkN; (repeat' split) <;> omega) (by omega) (by unfold tkS; (repeat' split) <;> omega) (by unfold tkV; (repeat' split) <;> omega)).symm
                 exact H _ _ rfl MZ)
            · refine MG.p23 (fun h232 M232 => ?_)
              obtain ⟨K, hK, MK⟩ := M232.nm
              have TK := TG.put hK (by decide)
              have K21 := (dF hK).2 21 (by decide)
              have K22 := (dF hK).2 22 (by decide)
              have K23 := (dF hK).1
              have K24 := (dF hK).2 24 (by decide)
              refine ⟨MK.k0, ?_⟩
              try rw [MK.f21]
              refine MK.p21 (fun h242 M242 => ?_)
              first
              | exact H _ _ rfl MZ
              | (obtain ⟨F, hF, MF⟩ := M242.nm
                 have TF := TK.put hF (by decide)
                 have F21 := (dF hF).1
                 have F22 := (dF hF).2 22 (by decide)
                 have F23 := (dF hF).2 23 (by decide)
                 have F24 := (dF hF).2 24 (by decide)
                 have MZ := MF.castD (TF.tok (by unfold tkN; (repeat' split) <;> omega) (by omega) (by unfold tkS; (repeat' split) <;> omega) (by unfold tkV; (repeat' split) <;> omega)).symm
                 exact H _ _ rfl MZ)
          · refine MG.p24 (fun h125 M125 => ?_)
            have J21 : dst G 0 24 0 0 21 = G 0 21 := dst_ne (by decide)
            have J22 : dst G 0 24 0 0 22 = G 0 22 := dst_ne (by decide)
            have J24 : dst G 0 24 0 0 24 = 0 := dst_eq _ _ _ _
            refine L_X7_token_128 hL hB (by omega) (by omega) ((E 0 20 - tkP E).toNat) _ _ M125 (by exact TG.put rfl (by decide)) (by omega) (by omega) (by rw [J21, G21, p0]) (by rw [J21, G21, p0, J24]) ?_
            exact H
        · refine L_X7_token_63 hL hB (by omega) (by omega) ((E 0 20 - tkP E).toNat) _ _ MG (by exact TG) (by omega) (by omega) (by omega) (by rw [G21, p0]) ?_
          exact H
  | succ n ih =>
    intro z1 D h M hT h24 hn0 hP H
    have hL1 := hT.L
    refine WP.of (RUN.mono GQ _) (cuts := [0, 63, 128]) (n := 400) (v_X7_token_0 _ _ _ _ _ ?_)
    refine ⟨M.k0, ?_⟩
    try rw [M.f21]
    refine ⟨M.k0, ?_⟩
    refine S_X7_seen M (by omega) (by omega) (by omega) (fun x5 e5 => ?_)
    rw [hT.bt] at e5
    have r5 := bt_rng hB hL.2 (k := D 0 21) (by omega)
    refine ⟨ir (by omega) (by omega), ir (by omega) (by omega), fun c10 => ?_, fun c10 => ?_⟩
    · refine ⟨M.k0, ?_⟩
      try rw [M.f21]
      refine M.p21 (fun h20 M20 => ?_)
      obtain ⟨F, hF, MF⟩ := M20.nm
      have TF := hT.put hF (by decide)
      have F21 := (dF hF).1
      have F22 := (dF hF).2 22 (by decide)
      have F23 := (dF hF).2 23 (by decide)
      have F24 := (dF hF).2 24 (by decide)
      refine ih _ _ _ MF (by exact TF) (by omega) (by omega) (by rw [F21]; rw [skl, if_pos (by omega)] at hP; exact hP) ?_
      exact H
    · have p0 : D 0 21 = tkP E := by first | exact hP | (rw [skl, if_neg (by omega)] at hP; exact hP)
      refine ⟨M.k0, ?_⟩
      try rw [M.f21]
      refine M.p22 (fun h31 M31 => ?_)
      obtain ⟨G, hG, MG⟩ := M31.nm
      have TG := hT.put hG (by decide)
      have G21 := (dF hG).2 21 (by decide)
      have G22 := (dF hG).1
      have G23 := (dF hG).2 23 (by decide)
      have G24 := (dF hG).2 24 (by decide)
      have hL2 := TG.L
      refine ⟨MG.k0, ?_⟩
      try rw [MG.f21]
      refine ⟨MG.k0, ?_⟩
      refine S_X7_seen MG (by omega) (by omega) (by omega) (fun x39 e39 => ?_)
      rw [TG.bt, G21, p0] at e39
      have r39 := bt_rng hB hL.2 (k := tkP E) (by omega)
      refine ⟨ir (by omega) (by omega), ir (by omega) (by omega), fun c45 => ?_, fun c45 => ?_⟩
      · refine MG.p23 (fun h50 M50 => ?_)
        obtain ⟨K, hK, MK⟩ := M50.nm
        have TK := TG.put hK (by decide)
        have K21 := (dF hK).2 21 (by decide)
        have K22 := (dF hK).2 22 (by decide)
        have K23 := (dF hK).1
        have K24 := (dF hK).2 24 (by decide)
        have MZ := MK.castD (TK.tok (by unfold tkN; (repeat' split) <;> omega) (by omega) (by unfold tkS; (repeat' split) <;> omega) (by unfold tkV; (repeat' split) <;> omega)).symm
        first
        | exact H _ _ rfl MZ
        | (obtain ⟨F, hF, MF⟩ := MK.nm
           have TF := TK.put hF (by decide)
           have F21 := (dF hF).1
           have F22 := (dF hF).2 22 (by decide)
           have F23 := (dF hF).2 23 (by decide)
           have F24 := (dF hF).2 24 (by decide)
           have MZ := MF.castD (TF.tok (by unfold tkN; (repeat' split) <;> omega) (by omega) (by unfold tkS; (repeat' split) <;> omega) (by unfold tkV; (repeat' split) <;> omega)).symm
           exact H _ _ rfl MZ)
      · refine S_X7_isLetter (by omega) (fun x57 e57 => ?_)
        refine ⟨ir (by omega) (by omega), fun c60 => ?_, fun c60 => ?_⟩
        · refine S_X7_isDigit (by omega) (fun x117 e117 => ?_)
          refine ⟨ir (by omega) (by omega), fun c120 => ?_, fun c120 => ?_⟩
          · refine ⟨ir (by omega) (by omega), ir (by omega) (by omega), fun c224 => ?_, fun c224 => ?_⟩
            · refine MG.p23 (fun h232 M232 => ?_)
              obtain ⟨K, hK, MK⟩ := M232.nm
              have TK := TG.put hK (by decide)
              have K21 := (dF hK).2 21 (by decide)
              have K22 := (dF hK).2 22 (by decide)
              have K23 := (dF hK).1
              have K24 := (dF hK).2 24 (by decide)
              refine ⟨MK.k0, ?_⟩
              try rw [MK.f21]
              refine MK.p21 (fun h242 M242 => ?_)
              first
              | exact H _ _ rfl MZ
              | (obtain ⟨F, hF, MF⟩ := M242.nm
                 have TF := TK.put hF (by decide)
                 have F21 := (dF hF).1
                 have F22 := (dF hF).2 22 (by decide)
                 have F23 := (dF hF).2 23 (by decide)
                 have F24 := (dF hF).2 24 (by decide)
                 have MZ := MF.castD (TF.tok (by unfold tkN; (repeat' split) <;> omega) (by omega) (by unfold tkS; (repeat' split) <;> omega) (by unfold tkV; (repeat' split) <;> omega)).symm
                 exact H _ _ rfl MZ)
            · refine MG.p23 (fun h232 M232 => ?_)
              obtain ⟨K, hK, MK⟩ := M232.nm
              have TK := TG.put hK (by decide)
              have K21 := (dF hK).2 21 (by decide)
              have K22 := (dF hK).2 22 (by decide)
              have K23 := (dF hK).1
              have K24 := (dF hK).2 24 (by decide)
              refine ⟨MK.k0, ?_⟩
              try rw [MK.f21]
              refine MK.p21 (fun h242 M242 => ?_)
              first
              | exact H _ _ rfl MZ
              | (obtain ⟨F, hF, MF⟩ := M242.nm
                 have TF := TK.put hF (by decide)
                 have F21 := (dF hF).1
                 have F22 := (dF hF).2 22 (by decide)
                 have F23 := (dF hF).2 23 (by decide)
                 have F24 := (dF hF).2 24 (by decide)
                 have MZ := MF.castD (TF.tok (by unfold tkN; (repeat' split) <;> omega) (by omega) (by unfold tkS; (repeat' split) <;> omega) (by unfold tkV; (repeat' split) <;> omega)).symm
                 exact H _ _ rfl MZ)
          · refine MG.p24 (fun h125 M125 => ?_)
            have J21 : dst G 0 24 0 0 21 = G 0 21 := dst_ne (by decide)
            have J22 : dst G 0 24 0 0 22 = G 0 22 := dst_ne (by decide)
            have J24 : dst G 0 24 0 0 24 = 0 := dst_eq _ _ _ _
            refine L_X7_token_128 hL hB (by omega) (by omega) ((E 0 20 - tkP E).toNat) _ _ M125 (by exact TG.put rfl (by decide)) (by omega) (by omega) (by rw [J21, G21, p0]) (by rw [J21, G21, p0, J24]) ?_
            exact H
        · refine L_X7_token_63 hL hB (by omega) (by omega) ((E 0 20 - tkP E).toNat) _ _ MG (by exact TG) (by omega) (by omega) (by omega) (by rw [G21, p0]) ?_
          exact H
theorem S_X7_token {d b : Nat} {h0 h : PH} {D : Nat → Int → Int} {s : Int → Int} {t : Int} {Q : Int → PH → Prop} {X : Nat → PH → Prop} (M : Mt b h0 h D s t) (hL : 0 ≤ D 0 20 ∧ D 0 20 ≤ 700) (h21 : 0 ≤ D 0 21 ∧ D 0 21 ≤ D 0 20) (hB : BY D) (H : ∀ (x : Int) h', x = 0 → Mt b h0 h' (tokD D) s t → Q x h') : RUN GQ (d + 2) m_X7_token [pA b] h Q X := by
  rw [e_X7_token]
  refine L_X7_token_0 hL hB ((D 0 20 - D 0 21).toNat) _ _ _ M (by exact TKR.refl _) (by rfl) (by omega) (by rfl) ?_
  exact H
