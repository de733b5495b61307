/-! the class reads words, numbers, names -/
theorem tkc_or (k : Int) : (k = 0 ∧ tkc k = 3) ∨ (k = 1 ∧ tkc k = 0) ∨ (k = 2 ∧ tkc k = 1) ∨ (k = 3 ∧ tkc k = 2) ∨ (k ≠ 0 ∧ k ≠ 1 ∧ k ≠ 2 ∧ k ≠ 3 ∧ tkc k = 4) := by
  unfold tkc
  (repeat' split) <;> omega
theorem BFR.eqD {h : PH} {D D' : Nat → Int → Int} (F : BFR h D) (q : D' 10 = D 10) : BFR h D' := by
  unfold BFR
  rw [q]
  exact F
theorem getD_le {w : List Int} {m : Int} (hw : ∀ x ∈ w, x ≤ m) {i : Nat} (h : i < w.length) : w.getD i 0 ≤ m := by
  unfold List.getD
  rw [List.getElem?_eq_getElem h]
  exact hw _ (List.getElem_mem h)
theorem wdt_rng : ∀ r, r < 35 → 15 ≤ r → (wdt r).length ≤ 7 ∧ ∀ x ∈ wdt r, x ≤ 127 := by decide
section WD4
variable {call : PC} {mc ms fr : Nat} {Q : Int → PH → Prop} {X : Nat → PH → Prop} {K : PK}
set_option maxRecDepth 100000 in
theorem v_X4_wordIs_0 (a0 : Nat) (a1 : Nat) (z2 : Option PV) (h : PH) (c s : Nat) (H : hk h a0 = 5 ∧ InR (hi h a0 4) ∧ ((hi h a0 4) = 0 →
 hk h a0 = 5 ∧ hk h a0 = 5 ∧ 6 ≤ fr ∧ hk h a1 = 27 ∧ InR ((hi h a0 6) - (hi h a0 5)) ∧ InR ((hl h a1 : Int)) ∧ (((hi h a0 6) - (hi h a0 5)) = ((hl h a1 : Int)) →
 K 27 [some (pA a0), some (pA a1), some (pI 0)] [] h c s) ∧
(((hi h a0 6) - (hi h a0 5)) ≠ ((hl h a1 : Int)) →
 ((0 : Int) = 0 ∨ (0 : Int) = 1) ∧ Q 0 h)) ∧
((hi h a0 4) ≠ 0 →
 ((0 : Int) = 0 ∨ (0 : Int) = 1) ∧ Q 0 h)) : wpc k_X4_wordIs [] call mc ms fr Q X [27] K 400 (pto 0 k_X4_wordIs) [some (pA a0), some (pA a1), z2] [] h c s :=
  H

set_option maxRecDepth 100000 in
theorem v_X4_wordIs_27 (a0 : Nat) (a1 : Nat) (i2 : Int) (h : PH) (c s : Nat) (H : 6 ≤ fr ∧ hk h a1 = 27 ∧ InR i2 ∧ InR ((hl h a1 : Int)) ∧ (i2 < ((hl h a1 : Int)) →
 hk h a0 = 5 ∧ hk h a0 = 5 ∧ call m_X4_byteAt [pA a0, pI ((hi h a0 5) + i2)] h (fun x1 h1 =>
 6 ≤ fr ∧ hk h1 a1 = 27 ∧ (0 ≤ i2 ∧ i2 < hl h1 a1) ∧ InR x1 ∧ InR (hi h1 a1 (Int.toNat i2)) ∧ (x1 = (hi h1 a1 (Int.toNat i2)) →
 K 27 [some (pA a0), some (pA a1), some (pI (i2 + 1))] [] h1 c s) ∧
(x1 ≠ (hi h1 a1 (Int.toNat i2)) →
 ((0 : Int) = 0 ∨ (0 : Int) = 1) ∧ Q 0 h1)) X) ∧
(((hl h a1 : Int)) ≤ i2 →
 ((1 : Int) = 0 ∨ (1 : Int) = 1) ∧ Q 1 h)) : wpc k_X4_wordIs [] call mc ms fr Q X [27] K 400 (pto 27 k_X4_wordIs) [some (pA a0), some (pA a1), some (pI i2)] [] h c s :=
  H

set_option maxRecDepth 100000 in
theorem v_X4_takeNumber_0 (a0 : Nat) (i1 : Int) (i2 : Int) (z3 : Option PV) (h : PH) (c s : Nat) (H : hk h a0 = 5 ∧ InR (hi h a0 4) ∧ InR 1 ∧ ((hi h a0 4) = 1 →
 hk h a0 = 5 ∧ InR (hi h a0 7) ∧ InR i1 ∧ ((hi h a0 7) < i1 →
 hk h a0 = 5 ∧ call m_X4_fail [pA a0, pI 2] h (fun _ h1 =>
 hk h1 a0 = 5 ∧ hk h1 a0 = 5 ∧ call m_X4_advance [pA a0] h1 (fun _ h2 =>
 Q (hi h1 a0 7) h2) X) X) ∧
(i1 ≤ (hi h a0 7) →
 hk h a0 = 5 ∧ InR (hi h a0 7) ∧ InR i2 ∧ (i2 < (hi h a0 7) →
 hk h a0 = 5 ∧ call m_X4_fail [pA a0, pI 2] h (fun _ h3 =>
 hk h3 a0 = 5 ∧ hk h3 a0 = 5 ∧ call m_X4_advance [pA a0] h3 (fun _ h4 =>
 Q (hi h3 a0 7) h4) X) X) ∧
((hi h a0 7) ≤ i2 →
 hk h a0 = 5 ∧ hk h a0 = 5 ∧ call m_X4_advance [pA a0] h (fun _ h5 =>
 Q (hi h a0 7) h5) X))) ∧
((hi h a0 4) ≠ 1 →
 hk h a0 = 5 ∧ call m_X4_fail [pA a0, pI 1] h (fun _ h6 =>
 hk h6 a0 = 5 ∧ hk h6 a0 = 5 ∧ call m_X4_advance [pA a0] h6 (fun _ h7 =>
 Q (hi h6 a0 7) h7) X) X)) : wpc k_X4_takeNumber [] call mc ms fr Q X [] K 400 (pto 0 k_X4_takeNumber) [some (pA a0), some (pI i1), some (pI i2), z3] [] h c s :=
  H

set_option maxRecDepth 100000 in
theorem v_X4_knownName_0 (a0 : Nat) (a1 : Nat) (z2 : Option PV) (h : PH) (c s : Nat) (H : hk h a0 = 5 ∧ InR (hi h a0 4) ∧ ((hi h a0 4) = 0 →
 hk h a0 = 5 ∧ hk h a0 = 5 ∧ hk h a0 = 5 ∧ hk h a0 = 5 ∧ hk h a1 = 3 ∧ call m_X2_placeOf [pA a1, pA (hr h a0 0), pI (hi h a0 5), pI ((hi h a0 6) - (hi h a0 5))] h (fun x1 h1 =>
 InR x1 ∧ InR ((-1)) ∧ (x1 = ((-1)) →
 hk h1 a0 = 5 ∧ call m_X4_fail [pA a0, pI 3] h1 (fun _ h2 =>
 Q x1 h2) X) ∧
(x1 ≠ ((-1)) →
 Q x1 h1)) X) ∧
((hi h a0 4) ≠ 0 →
 hk h a0 = 5 ∧ call m_X4_fail [pA a0, pI 1] h (fun _ h3 =>
 Q ((-1)) h3) X)) : wpc k_X4_knownName [] call mc ms fr Q X [] K 400 (pto 0 k_X4_knownName) [some (pA a0), some (pA a1), z2] [] h c s :=
  H

set_option maxRecDepth 100000 in
theorem v_X4_takeName_0 (a0 : Nat) (a1 : Nat) (z2 : Option PV) (h : PH) (c s : Nat) (H : hk h a0 = 5 ∧ call m_X4_knownName [pA a0, pA a1] h (fun x1 h1 =>
 hk h1 a0 = 5 ∧ call m_X4_advance [pA a0] h1 (fun _ h2 =>
 Q x1 h2) X) X) : wpc k_X4_takeName [] call mc ms fr Q X [] K 400 (pto 0 k_X4_takeName) [some (pA a0), some (pA a1), z2] [] h c s :=
  H

set_option maxRecDepth 100000 in
theorem v_X4_takeFirstWord_0 (a0 : Nat) (i1 : Int) (h : PH) (c s : Nat) (H : InR i1 ∧ (i1 = 0 →
 hk h a0 = 5 ∧ call m_X4_fail [pA a0, pI 4] h (fun _ h1 =>
 hk h1 a0 = 5 ∧ call m_X4_advance [pA a0] h1 (fun _ h2 =>
 Q 0 h2) X) X) ∧
(i1 ≠ 0 →
 hk h a0 = 5 ∧ call m_X4_advance [pA a0] h (fun _ h3 =>
 Q 0 h3) X)) : wpc k_X4_takeFirstWord [] call mc ms fr Q X [] K 400 (pto 0 k_X4_takeFirstWord) [some (pA a0), some (pI i1)] [] h c s :=
  H

set_option maxRecDepth 100000 in
theorem v_X4_actType_0 (a0 : Nat) (h : PH) (c s : Nat) (H : hk h a0 = 5 ∧ call m_X4_wordIs [pA a0, pA 21] h (fun x1 h1 =>
 InR x1 ∧ (x1 = 0 →
 hk h1 a0 = 5 ∧ call m_X4_wordIs [pA a0, pA 22] h1 (fun x2 h2 =>
 InR x2 ∧ (x2 = 0 →
 hk h2 a0 = 5 ∧ call m_X4_wordIs [pA a0, pA 23] h2 (fun x3 h3 =>
 InR x3 ∧ (x3 = 0 →
 hk h3 a0 = 5 ∧ call m_X4_wordIs [pA a0, pA 24] h3 (fun x4 h4 =>
 InR x4 ∧ (x4 = 0 →
 Q ((-1)) h4) ∧
(x4 ≠ 0 →
 Q 3 h4)) X) ∧
(x3 ≠ 0 →
 Q 2 h3)) X) ∧
(x2 ≠ 0 →
 Q 1 h2)) X) ∧
(x1 ≠ 0 →
 Q 0 h1)) X) : wpc k_X4_actType [] call mc ms fr Q X [] K 400 (pto 0 k_X4_actType) [some (pA a0)] [] h c s :=
  H

end WD4
section WORDS
variable {d p : Nat} {h0 h : PH} {ES D : Nat → Int → Int} {Q : Int → PH → Prop} {X : Nat → PH → Prop}
theorem L_X4_wordIs_27 {a : Nat} {w : List Int} (r0 : hr h0 p 0 = 65) (F : BFR h0 D) (hd : 66 ≤ p) (R : PR D) (S : Sx p h0 h ES) (e1 : ES 0 1 = D 0 20) (e5 : ES 0 5 = D 0 22) (hS : STR h a w) (hw : ∀ x ∈ w, x ≤ 127) (hl7 : w.length ≤ 7) : ∀ (n : Nat) (i : Int), 0 ≤ i → i + n = w.length → Q (wdl D w n i) h → WP k_X4_wordIs [] (RUN GQ (d + 6)) 0 0 (d + 7) Q X 27 [some (pA p), some (pA a), some (pI i)] [] h 0 0 := by
  have k5 : hk h p = 5 := S.k 0 (by decide) rfl
  have f5 : hi h p 5 = D 0 22 := (S.f5 0 (by decide)).trans e5
  have r22 := R.2.1
  have rL := R.L
  intro n
  induction n with
  | zero =>
    intro i i0 hn' H
    refine WP.of (RUN.mono GQ _) (cuts := [27]) (n := 400) (v_X4_wordIs_27 _ _ _ _ _ _ ?_)
    rw [hS.2.1]
    exact ⟨by omega, hS.1, ir (by omega) (by omega), ir (by omega) (by omega), fun c => absurd c (by omega), fun _ => ⟨Or.inr rfl, H⟩⟩
  | succ n ih =>
    intro i i0 hn' H
    refine WP.of (RUN.mono GQ _) (cuts := [27]) (n := 400) (v_X4_wordIs_27 _ _ _ _ _ _ ?_)
    have e : wdl D w (n + 1) i = if bt D (D 0 22 + i) = w.getD i.toNat 0 then wdl D w n (i + 1) else 0 := rfl
    rw [e] at H
    have cq := cb_bt R.B rL.2 (i := D 0 22 + i) (by omega)
    have g := getD_le hw (i := i.toNat) (by omega)
    have g0 := (hS.2.2.2 i.toNat).1
    rw [hS.2.1, f5]
    refine ⟨by omega, hS.1, ir (by omega) (by omega), ir (by omega) (by omega), fun _ => ⟨k5, k5, ?_⟩, fun c => absurd c (by omega)⟩
    refine S_X4_byteAt S r0 F hd e1 rL (ir (by omega) (by omega)) ?_
    rw [hS.2.1, hS.2.2.1 i i0 (by omega)]
    refine ⟨by omega, hS.1, ⟨i0, by omega⟩, ir (by omega) (by omega), ir (by omega) (by omega), fun c => ?_, fun c => ⟨Or.inl rfl, ?_⟩⟩
    · rw [if_pos (by omega)] at H
      exact ih (i + 1) (by omega) (by omega) H
    · rw [if_neg (by omega)] at H
      exact H
theorem S_X4_wordIs {a : Nat} {w : List Int} (r0 : hr h0 p 0 = 65) (F : BFR h0 D) (hd : 66 ≤ p) (R : PR D) (S : Sx p h0 h ES) (P : PCr ES D) (h25 : D 0 25 = 0) (hS0 : STR h0 a w) (ha : a < p) (hw : w.length ≤ 7 ∧ ∀ x ∈ w, x ≤ 127) (H : Q (wdv D w) h) : RUN GQ (d + 7) m_X4_wordIs [pA p, pA a] h Q X := by
  rw [e_X4_wordIs]
  refine WP.of (RUN.mono GQ _) (cuts := [27]) (n := 400) (v_X4_wordIs_0 _ _ _ _ _ _ ?_)
  have k5 : hk h p = 5 := S.k 0 (by decide) rfl
  have hS := hS0.of S.2.1 ha
  have f4 : hi h p 4 = tkc (D 0 23) := (S.f4 0 (by decide)).trans P.2.1
  have f5 : hi h p 5 = D 0 22 := (S.f5 0 (by decide)).trans P.2.2.1
  have f6 : hi h p 6 = D 0 21 := (S.f6 0 (by decide)).trans P.2.2.2.1
  have tk := tkc_or (D 0 23)
  have r22 := R.2.1
  have rL := R.L
  have hl7 := hw.1
  rw [f4, f5, f6, hS.2.1]
  refine ⟨k5, ir (by omega) (by omega), fun c => ⟨k5, k5, by omega, hS.1, ir (by omega) (by omega), ir (by omega) (by omega), fun c1 => ?_, fun c1 => ⟨Or.inl rfl, ?_⟩⟩, fun c => ⟨Or.inl rfl, ?_⟩⟩
  · have e : wdv D w = wdl D w w.length 0 := if_pos ⟨h25, by omega, c1⟩
    rw [e] at H
    exact L_X4_wordIs_27 r0 F hd R S P.1 P.2.2.1 hS hw.2 hl7 w.length 0 (by omega) (by omega) H
  · have e : wdv D w = 0 := if_neg (by omega)
    rw [e] at H; exact H
  · have e : wdv D w = 0 := if_neg (by omega)
    rw [e] at H; exact H
theorem S_X4_word (r : Nat) (hr' : 15 ≤ r ∧ r < 35) (r0 : hr h0 p 0 = 65) (F : BFR h0 D) (hd : 66 ≤ p) (R : PR D) (S : Sx p h0 h ES) (P : PCr ES D) (h25 : D 0 25 = 0) (W : WRD h0) (H : Q (wdv D (wdt r)) h) : RUN GQ (d + 7) m_X4_wordIs [pA p, pA r] h Q X :=
  S_X4_wordIs r0 F hd R S P h25 (W r hr'.1 hr'.2) (by omega) (wdt_rng r hr'.2 hr'.1) H
theorem S_X4_actType (r0 : hr h0 p 0 = 65) (F : BFR h0 D) (hd : 66 ≤ p) (R : PR D) (S : Sx p h0 h ES) (P : PCr ES D) (h25 : D 0 25 = 0) (W : WRD h0) (H : Q (aht D) h) : RUN GQ (d + 8) m_X4_actType [pA p] h Q X := by
  rw [e_X4_actType]
  refine WP.of (RUN.mono GQ _) (cuts := []) (n := 400) (v_X4_actType_0 _ _ _ _ ?_)
  have k5 : hk h p = 5 := S.k 0 (by decide) rfl
  have e : aht D = if wdv D (wdt 21) = 1 then 0 else if wdv D (wdt 22) = 1 then 1 else if wdv D (wdt 23) = 1 then 2 else if wdv D (wdt 24) = 1 then 3 else -1 := rfl
  rw [e] at H
  have w1 := wdv_01 D (wdt 21)
  have w2 := wdv_01 D (wdt 22)
  have w3 := wdv_01 D (wdt 23)
  have w4 := wdv_01 D (wdt 24)
  refine ⟨k5, S_X4_word 21 (by decide) r0 F hd R S P h25 W ?_⟩
  refine ⟨ir (by omega) (by omega), fun c1 => ⟨k5, ?_⟩, fun c1 => ?_⟩
  · rw [if_neg (by omega)] at H
    refine S_X4_word 22 (by decide) r0 F hd R S P h25 W ?_
    refine ⟨ir (by omega) (by omega), fun c2 => ⟨k5, ?_⟩, fun c2 => ?_⟩
    · rw [if_neg (by omega)] at H
      refine S_X4_word 23 (by decide) r0 F hd R S P h25 W ?_
      refine ⟨ir (by omega) (by omega), fun c3 => ⟨k5, ?_⟩, fun c3 => ?_⟩
      · rw [if_neg (by omega)] at H
        refine S_X4_word 24 (by decide) r0 F hd R S P h25 W ?_
        refine ⟨ir (by omega) (by omega), fun c4 => ?_, fun c4 => ?_⟩
        · rw [if_neg (by omega)] at H; exact H
        · rw [if_pos (by omega)] at H; exact H
      · rw [if_pos (by omega)] at H; exact H
    · rw [if_pos (by omega)] at H; exact H
  · rw [if_pos (by omega)] at H; exact H
theorem PR.e25 (R : PR D) : 0 ≤ D 0 25 ∧ D 0 25 ≤ 4 := R.2.2.2.2.2.1
theorem S_X4_takeNumber {lo hi' : Int} (r0 : hr h0 p 0 = 65) (F : BFR h0 D) (hd : 66 ≤ p) (R : PR D) (S : Sx p h0 h ES) (P : PCr ES D) (hlo : InR lo) (hhi : InR hi')
    (H : ∀ v h' ES', Sx p h0 h' ES' → PCr ES' (gD (tkE D lo hi')) → ES' 0 8 = ES 0 8 → (tkE D lo hi' 0 25 = 0 → v = tvV D lo hi') → Q v h') : RUN GQ (d + 4) m_X4_takeNumber [pA p, pI lo, pI hi'] h Q X := by
  rw [e_X4_takeNumber]
  refine WP.of (RUN.mono GQ _) (cuts := []) (n := 400) (v_X4_takeNumber_0 _ _ _ _ _ _ _ ?_)
  have k5 : hk h p = 5 := S.k 0 (by decide) rfl
  have f4 : hi h p 4 = tkc (D 0 23) := (S.f4 0 (by decide)).trans P.2.1
  have f7 : hi h p 7 = ES 0 7 := S.f7 0 (by decide)
  have tk := tkc_or (D 0 23)
  rw [f4, f7]
  -- a failure, then the next token
  have bad : ∀ w, 1 ≤ w ∧ w ≤ 4 → tkE D lo hi' = flD D w → hk h p = 5 ∧ RUN GQ (d + 3) m_X4_fail [pA p, pI w] h (fun _ h1 => hk h1 p = 5 ∧ hk h1 p = 5 ∧ RUN GQ (d + 3) m_X4_advance [pA p] h1 (fun _ h2 => Q (hi h1 p 7) h2) X) X := by
    intro w hw e
    refine ⟨k5, S_X4_fail S P R.e25 (fun h1 ES1 S1 P1 q1 => ?_)⟩
    have k1 : hk h1 p = 5 := S1.k 0 (by decide) rfl
    refine ⟨k1, k1, S_X4_advance r0 (F.eqD (fl_row D w (by decide))) hd (R.fl hw) S1 P1 (fun h2 ES2 S2 P2 q2 => ?_)⟩
    exact H _ h2 ES2 S2 (by rw [e]; exact P2) (q2.trans q1) (fun z => absurd z (by rw [e]; exact fl_25 D (by omega)))
  refine ⟨k5, ir (by omega) (by omega), ir (by omega) (by omega), fun c => ?_, fun c => bad 1 (by decide) (if_neg (by omega))⟩
  have v7 := P.2.2.2.2.1 (by omega)
  have r7 := R.2.2.2.1 (by omega)
  rw [v7]
  refine ⟨k5, ir (by omega) (by omega), hlo, fun c1 => bad 2 (by decide) ?_, fun c1 => ⟨k5, ir (by omega) (by omega), hhi, fun c2 => bad 2 (by decide) ?_, fun c2 => ⟨k5, k5, ?_⟩⟩⟩
  · unfold tkE; rw [if_pos (by omega), if_neg (by omega)]
  · unfold tkE; rw [if_pos (by omega), if_neg (by omega)]
  · have e : tkE D lo hi' = D := by unfold tkE; rw [if_pos (by omega), if_pos ⟨c1, c2⟩]
    refine S_X4_advance r0 F hd R S P (fun h2 ES2 S2 P2 q2 => ?_)
    refine H _ h2 ES2 S2 (by rw [e]; exact P2) q2 (fun z => ?_)
    unfold tvV
    rw [if_pos z, e]
theorem S_X4_takeFirstWord {z : Int} (r0 : hr h0 p 0 = 65) (F : BFR h0 D) (hd : 66 ≤ p) (R : PR D) (S : Sx p h0 h ES) (P : PCr ES D) (hz : z = 0 ∨ z = 1)
    (H : ∀ h' ES', Sx p h0 h' ES' → PCr ES' (gD (if z = 0 then flD D 4 else D)) → ES' 0 8 = ES 0 8 → Q 0 h') : RUN GQ (d + 4) m_X4_takeFirstWord [pA p, pI z] h Q X := by
  rw [e_X4_takeFirstWord]
  refine WP.of (RUN.mono GQ _) (cuts := []) (n := 400) (v_X4_takeFirstWord_0 _ _ _ _ _ ?_)
  have k5 : hk h p = 5 := S.k 0 (by decide) rfl
  refine ⟨ir (by omega) (by omega), fun c => ⟨k5, ?_⟩, fun c => ⟨k5, ?_⟩⟩
  · rw [if_pos c] at H
    refine S_X4_fail S P R.e25 (fun h1 ES1 S1 P1 q1 => ⟨S1.k 0 (by decide) rfl, ?_⟩)
    exact S_X4_advance r0 (F.eqD (fl_row D 4 (by decide))) hd (R.fl (by decide)) S1 P1 (fun h2 ES2 S2 P2 q2 => H h2 ES2 S2 P2 (q2.trans q1))
  · rw [if_neg c] at H
    exact S_X4_advance r0 F hd R S P H
/-- what 'knownName' does when the place is x -/
theorem nh_cls {j : Nat} {many x : Int} (hx : D 0 25 = 0 → x = nmv (D j) D (D 0 22) (D 0 21) many.toNat 0) : (D 0 23 = 1 → (x = -1 → nhD j many D = flD D 3) ∧ (x ≠ -1 → nhD j many D = D ∧ (D 0 25 = 0 → nhV j many D = x))) ∧ (D 0 23 ≠ 1 → nhD j many D = flD D 1) := by
  refine ⟨fun h1 => ?_, fun h1 => ?_⟩
  · have e : n1D D = D := if_pos h1
    unfold nhD nhV nhD nhK
    rw [e]
    by_cases c : D 0 25 = 0
    · rw [if_pos c, ← hx c]
      refine ⟨fun y => by rw [if_pos y], fun y => ?_⟩
      rw [if_neg y]
      exact ⟨rfl, fun _ => if_pos c⟩
    · rw [if_neg c, if_neg (by omega)]
      refine ⟨fun _ => ?_, fun _ => ⟨rfl, fun z => absurd z c⟩⟩
      exact (if_neg c).symm
  · have e : n1D D = flD D 1 := if_neg h1
    have z := fl_25 D (w := 1) (by decide)
    unfold nhD nhK
    rw [e, if_neg z, if_neg (by omega)]
end WORDS
