/-! the class reads a text: the lines -/
section TXV
variable {call : PC} {mc ms fr : Nat} {Q : Int → PH → Prop} {X : Nat → PH → Prop} {K : PK}
set_option maxRecDepth 100000 in
theorem v_X4_readText_0 (a0 : Nat) (z1 : Option PV) (h : PH) (c s : Nat) (H : hk h a0 = 5 ∧ hk h (hr h a0 2) = 6 ∧ call m_X5_empty [pA (hr h a0 2)] h (fun _ h1 =>
 hk h1 a0 = 5 ∧ hk h1 (hr h1 a0 3) = 1 ∧ call m_X0_empty [pA (hr h1 a0 3)] h1 (fun _ h2 =>
 hk h2 a0 = 5 ∧ call m_X4_advance [pA a0] h2 (fun _ h3 =>
 hk h3 a0 = 5 ∧ call m_X4_wordIs [pA a0, pA 15] h3 (fun x4 h4 =>
 InR x4 ∧ (x4 = 0 →
 hk h4 a0 = 5 ∧ call m_X4_fail [pA a0, pI 1] h4 (fun _ h5 =>
 hk h5 a0 = 5 ∧ call m_X4_advance [pA a0] h5 (fun _ h6 =>
 K 38 [some (pA a0), some (pI 0)] [] h6 c s) X) X) ∧
(x4 ≠ 0 →
 hk h4 a0 = 5 ∧ call m_X4_advance [pA a0] h4 (fun _ h7 =>
 K 38 [some (pA a0), some (pI 0)] [] h7 c s) X)) X) X) X) X) : wpc k_X4_readText [] call mc ms fr Q X [38, 73, 191] K 400 (pto 0 k_X4_readText) [some (pA a0), z1] [] h c s :=
  H

set_option maxRecDepth 100000 in
theorem v_X4_readText_38 (a0 : Nat) (i1 : Int) (h : PH) (c s : Nat) (H : InR i1 ∧ InR 4 ∧ (i1 < 4 →
 hk h a0 = 5 ∧ (hk h 2 = 20 ∨ hk h 2 = 26) ∧ (0 ≤ i1 ∧ i1 < (hl h 2 : Int)) ∧ (hk h 3 = 20 ∨ hk h 3 = 26) ∧ (0 ≤ i1 ∧ i1 < (hl h 3 : Int)) ∧ hk h a0 = 5 ∧ call m_X4_takeNumber [pA a0, pI (hi h 2 (Int.toNat i1)), pI (hi h 3 (Int.toNat i1))] h (fun x1 h1 =>
 hk h1 (hr h a0 3) = 1 ∧ call m_X0_putSetting [pA (hr h a0 3), pI i1, pI x1] h1 (fun _ h2 =>
 K 38 [some (pA a0), some (pI (i1 + 1))] [] h2 c s) X) X) ∧
(4 ≤ i1 →
 K 73 [some (pA a0), some (pI 0)] [] h c s)) : wpc k_X4_readText [] call mc ms fr Q X [38, 73, 191] K 400 (pto 38 k_X4_readText) [some (pA a0), some (pI i1)] [] h c s :=
  H

set_option maxRecDepth 100000 in
theorem v_X4_readText_73 (a0 : Nat) (i1 : Int) (h : PH) (c s : Nat) (H : hk h a0 = 5 ∧ InR i1 ∧ InR (hi h a0 1) ∧ (i1 < (hi h a0 1) →
 hk h a0 = 5 ∧ InR (hi h a0 9) ∧ ((hi h a0 9) = 0 →
 hk h a0 = 5 ∧ InR (hi h a0 4) ∧ InR 2 ∧ ((hi h a0 4) = 2 →
 hk h a0 = 5 ∧ call m_X4_advance [pA a0] h (fun _ h1 =>
 hk h1 a0 = 5 ∧ call m_X4_wordIs [pA a0, pA 16] h1 (fun x2 h2 =>
 InR x2 ∧ (x2 = 0 →
 hk h2 a0 = 5 ∧ call m_X4_wordIs [pA a0, pA 17] h2 (fun x3 h3 =>
 InR x3 ∧ (x3 = 0 →
 hk h3 a0 = 5 ∧ call m_X4_wordIs [pA a0, pA 18] h3 (fun x4 h4 =>
 InR x4 ∧ (x4 = 0 →
 hk h4 a0 = 5 ∧ call m_X4_wordIs [pA a0, pA 19] h4 (fun x5 h5 =>
 InR x5 ∧ (x5 = 0 →
 hk h5 a0 = 5 ∧ call m_X4_wordIs [pA a0, pA 20] h5 (fun x6 h6 =>
 InR x6 ∧ (x6 = 0 →
 hk h6 a0 = 5 ∧ call m_X4_fail [pA a0, pI 1] h6 (fun _ h7 =>
 K 73 [some (pA a0), some (pI (i1 + 1))] [] h7 c s) X) ∧
(x6 ≠ 0 →
 hk h6 a0 = 5 ∧ call m_X4_readSendLine [pA a0] h6 (fun _ h8 =>
 K 73 [some (pA a0), some (pI (i1 + 1))] [] h8 c s) X)) X) ∧
(x5 ≠ 0 →
 hk h5 a0 = 5 ∧ call m_X4_readHideLine [pA a0] h5 (fun _ h9 =>
 K 73 [some (pA a0), some (pI (i1 + 1))] [] h9 c s) X)) X) ∧
(x4 ≠ 0 →
 hk h4 a0 = 5 ∧ call m_X4_readHandleLine [pA a0] h4 (fun _ h10 =>
 K 73 [some (pA a0), some (pI (i1 + 1))] [] h10 c s) X)) X) ∧
(x3 ≠ 0 →
 hk h3 a0 = 5 ∧ call m_X4_readProgramLine [pA a0] h3 (fun _ h11 =>
 K 73 [some (pA a0), some (pI (i1 + 1))] [] h11 c s) X)) X) ∧
(x2 ≠ 0 →
 hk h2 a0 = 5 ∧ call m_X4_readKindLine [pA a0] h2 (fun _ h12 =>
 K 73 [some (pA a0), some (pI (i1 + 1))] [] h12 c s) X)) X) X) ∧
((hi h a0 4) ≠ 2 →
 K 191 [some (pA a0), some (pI i1)] [] h c s)) ∧
((hi h a0 9) ≠ 0 →
 K 191 [some (pA a0), some (pI i1)] [] h c s)) ∧
((hi h a0 1) ≤ i1 →
 K 191 [some (pA a0), some (pI i1)] [] h c s)) : wpc k_X4_readText [] call mc ms fr Q X [38, 73, 191] K 400 (pto 73 k_X4_readText) [some (pA a0), some (pI i1)] [] h c s :=
  H

set_option maxRecDepth 100000 in
theorem v_X4_readText_191 (a0 : Nat) (i1 : Int) (h : PH) (c s : Nat) (H : hk h a0 = 5 ∧ InR (hi h a0 4) ∧ InR 3 ∧ ((hi h a0 4) = 3 →
 Q 0 h) ∧
((hi h a0 4) ≠ 3 →
 hk h a0 = 5 ∧ call m_X4_fail [pA a0, pI 1] h (fun _ h1 =>
 Q 0 h1) X)) : wpc k_X4_readText [] call mc ms fr Q X [38, 73, 191] K 400 (pto 191 k_X4_readText) [some (pA a0), some (pI i1)] [] h c s :=
  H

end TXV
section TXL
variable {d p b : Nat} {h0 h : PH} {D : Nat → Int → Int} {s : Int → Int} {Q : Int → PH → Prop} {X : Nat → PH → Prop}
theorem GD.st {D' EP E : Nat → Int → Int} {f1 f2 : Int → Int} {K1 K2 n8 : Int} (G : GD D EP E f1 f2 K1 K2 s n8) (S : ST D D') (h34 : 0 ≤ D 0 34) : GD D' EP E f1 f2 K1 K2 s n8 := by
  obtain ⟨⟨⟨g1, g2⟩, g3, g4⟩, pl, hr', n8⟩ := G
  refine ⟨⟨⟨?_, ?_⟩, ?_, ?_⟩, ?_, ?_, ?_⟩
  · rw [S.r (by decide)]; exact g1
  · rw [S.f (by decide)]; exact g2
  · rw [S.r (by decide)]; exact g3
  · rw [S.f (by decide)]; exact g4
  · unfold PLr
    rw [S.r (j := 15) (by decide), S.r (j := 16) (by decide), S.r (j := 17) (by decide)]
    exact pl
  · rw [S.f (e := 30) (by decide), S.f (e := 31) (by decide), bcS_same (S.f (by decide)) (S.f (by decide)) (S.f (by decide)) (S.f (by decide)) (S.f (by decide)) (fun e _ _ => by rw [S.r (by decide)]) (S.r (by decide)) (S.r (by decide)) h34]
    exact hr'
  · rw [S.f (by decide)]; exact n8
theorem T_191 {i : Int} (Z0 : LNR h0 h p b D s) (R : PR D) (H : ∀ h', LNR h0 h' p b (rdZ D) s → Q 0 h') : WP k_X4_readText [] (RUN GQ (d + 10)) 0 0 (d + 11) Q X 191 [some (pA p), some (pI i)] [] h 0 0 := by
  refine WP.of (RUN.mono GQ _) (cuts := [38, 73, 191]) (n := 400) (v_X4_readText_191 _ _ _ _ _ ?_)
  have Zc := Z0
  obtain ⟨ES, EP, E, f1, f2, K1, K2, Z, G⟩ := Zc
  have f4 : hi h p 4 = tkc (D 0 23) := (Z.S.f4 0 (by decide)).trans Z.P.2.1
  have tk := tkc_or (D 0 23)
  rw [f4]
  refine ⟨Z.k5, ir (by omega) (by omega), ir (by omega) (by omega), fun c => ?_, fun c => ⟨Z.k5, ?_⟩⟩
  · have e : rdZ D = D := if_pos (by omega)
    rw [e] at H
    exact H h Z0
  · have e : rdZ D = flD D 1 := if_neg (by omega)
    rw [e] at H
    exact W_fail Z R (fun h1 ES1 Z1 q1 => H h1 ⟨ES1, EP, E, f1, f2, K1, K2, Z1, fun z => absurd z (fl_25 D (by decide))⟩)
theorem L_lines (i1 : InR (s (-1))) (i2 : InR (s (-2))) : ∀ (m : Nat) (i : Int) (D : Nat → Int → Int) (h : PH), LNR h0 h p b D s → PR D → RI D → (D 0 25 = 0 → RS D) → 0 ≤ i → i + m = 702 → (D 0 25 = 0 → D 0 23 = 3 → i + 1 ≤ D 0 21) → (∀ h', LNR h0 h' p b (rdZ (rdl m D)) s → Q 0 h') → WP k_X4_readText [] (RUN GQ (d + 10)) 0 0 (d + 11) Q X 73 [some (pA p), some (pI i)] [] h 0 0 := by
  intro m
  induction m with
  | zero =>
    intro i D h Z0 R I st i0 im inv H
    refine WP.of (RUN.mono GQ _) (cuts := [38, 73, 191]) (n := 400) (v_X4_readText_73 _ _ _ _ _ ?_)
    have Zc := Z0
    obtain ⟨ES, EP, E, f1, f2, K1, K2, Z, G⟩ := Zc
    have f1' : hi h p 1 = D 0 20 := (Z.S.f1 0 (by decide)).trans Z.P.1
    have rL := R.L
    rw [f1']
    exact ⟨Z.k5, ir (by omega) (by omega), ir (by omega) (by omega), fun c => absurd c (by omega), fun _ => T_191 Z0 R H⟩
  | succ m ih =>
    intro i D h Z0 R I st i0 im inv H
    refine WP.of (RUN.mono GQ _) (cuts := [38, 73, 191]) (n := 400) (v_X4_readText_73 _ _ _ _ _ ?_)
    have Zc := Z0
    obtain ⟨ES, EP, E, f1, f2, K1, K2, Z, G⟩ := Zc
    have f1' : hi h p 1 = D 0 20 := (Z.S.f1 0 (by decide)).trans Z.P.1
    have f4 : hi h p 4 = tkc (D 0 23) := (Z.S.f4 0 (by decide)).trans Z.P.2.1
    have f9 : hi h p 9 = D 0 25 := (Z.S.f9 0 (by decide)).trans Z.P.2.2.2.2.2.1
    have tk := tkc_or (D 0 23)
    have rL := R.L
    have rn := R.n
    have e25 := R.e25
    have e : rdl (m + 1) D = if D 0 25 = 0 ∧ D 0 23 = 3 then rdl m (liD (tokD D)) else D := rfl
    rw [e] at H
    rw [f1', f9, f4]
    by_cases go : D 0 25 = 0 ∧ D 0 23 = 3
    · rw [if_pos go] at H
      have iv := inv go.1 go.2
      refine ⟨Z.k5, ir (by omega) (by omega), ir (by omega) (by omega), fun _ => ⟨Z.k5, ir (by omega) (by omega), fun _ => ⟨Z.k5, ir (by omega) (by omega), ir (by omega) (by omega), fun _ => ⟨Z.k5, ?_⟩, fun c => absurd c (by omega)⟩, fun c => absurd go.1 c⟩, fun c => absurd c (by omega)⟩
      refine W_advance Z R (fun h1 ES1 Z1 q1 => ?_)
      have eg : gD D = tokD D := if_pos go.1
      rw [eg] at Z1
      have S1 : ST D (tokD D) := ST.tok R
      have R1 := S1.P
      have I1 : RI (tokD D) := I.st S1
      have h25 : tokD D 0 25 = 0 := go.1
      have st1 : RS (tokD D) := by
        have q := st go.1
        unfold RS
        rw [S1.f (e := 27) (by decide), S1.f (e := 28) (by decide), S1.f (e := 29) (by decide), S1.f (e := 30) (by decide)]
        exact q
      have Y1 : LNR h0 h1 p b (tokD D) s := ⟨ES1, EP, E, f1, f2, K1, K2, Z1, fun _ => by rw [q1]; exact (G go.1).st S1 I.h34.1⟩
      have la := li_all R1 I1
      -- behind the line
      have nx : ∀ h', LNR h0 h' p b (liD (tokD D)) s → WP k_X4_readText [] (RUN GQ (d + 10)) 0 0 (d + 11) Q X 73 [some (pA p), some (pI (i + 1))] [] h' 0 0 := by
        intro h' Z'
        refine ih (i + 1) (liD (tokD D)) h' Z' la.2.1 la.1 (fun _ => ?_) (by omega) (by omega) (fun z _ => ?_) H
        · unfold RS
          rw [li_f R1 (e := 27) (by decide), li_f R1 (e := 28) (by decide), li_f R1 (e := 29) (by decide), li_f R1 (e := 30) (by decide)]
          exact st1
        · have := li_adv R I z
          omega
      have eL : liD (tokD D) = if wdv (tokD D) (wdt 16) = 1 then lkD (tokD D) else if wdv (tokD D) (wdt 17) = 1 then lpD (tokD D) else if wdv (tokD D) (wdt 18) = 1 then lnD (tokD D) else if wdv (tokD D) (wdt 19) = 1 then lhD (tokD D) else if wdv (tokD D) (wdt 20) = 1 then lsD (tokD D) else flD (tokD D) 1 := rfl
      have w1 := wdv_01 (tokD D) (wdt 16)
      have w2 := wdv_01 (tokD D) (wdt 17)
      have w3 := wdv_01 (tokD D) (wdt 18)
      have w4 := wdv_01 (tokD D) (wdt 19)
      have w5 := wdv_01 (tokD D) (wdt 20)
      refine ⟨Z1.k5, W_word 16 (by decide) Z1 R1 h25 ?_⟩
      refine ⟨ir (by omega) (by omega), fun c1 => ⟨Z1.k5, ?_⟩, fun c1 => ⟨Z1.k5, ?_⟩⟩
      · rw [if_neg (by omega)] at eL
        refine W_word 17 (by decide) Z1 R1 h25 ?_
        refine ⟨ir (by omega) (by omega), fun c2 => ⟨Z1.k5, ?_⟩, fun c2 => ⟨Z1.k5, ?_⟩⟩
        · rw [if_neg (by omega)] at eL
          refine W_word 18 (by decide) Z1 R1 h25 ?_
          refine ⟨ir (by omega) (by omega), fun c3 => ⟨Z1.k5, ?_⟩, fun c3 => ⟨Z1.k5, ?_⟩⟩
          · rw [if_neg (by omega)] at eL
            refine W_word 19 (by decide) Z1 R1 h25 ?_
            refine ⟨ir (by omega) (by omega), fun c4 => ⟨Z1.k5, ?_⟩, fun c4 => ⟨Z1.k5, ?_⟩⟩
            · rw [if_neg (by omega)] at eL
              refine W_word 20 (by decide) Z1 R1 h25 ?_
              refine ⟨ir (by omega) (by omega), fun c5 => ⟨Z1.k5, ?_⟩, fun c5 => ⟨Z1.k5, ?_⟩⟩
              · rw [if_neg (by omega)] at eL
                exact W_fail Z1 R1 (fun h2 ES2 Z2 q2 => nx h2 ⟨ES2, EP, E, f1, f2, K1, K2, by rw [eL]; exact Z2, fun z => absurd z (by rw [eL]; exact fl_25 _ (by decide))⟩)
              · rw [if_pos (by omega)] at eL
                exact W_readSendLine Y1 R1 I1 st1 i1 i2 h25 (fun h2 Z2 => nx h2 (by rw [eL]; exact Z2))
            · rw [if_pos (by omega)] at eL
              exact W_readHideLine Y1 R1 I1 st1 i1 i2 h25 (fun h2 Z2 => nx h2 (by rw [eL]; exact Z2))
          · rw [if_pos (by omega)] at eL
            exact W_readHandleLine Y1 R1 I1 h25 (fun h2 Z2 => nx h2 (by rw [eL]; exact Z2))
        · rw [if_pos (by omega)] at eL
          exact W_readProgramLine Y1 R1 I1 h25 (fun h2 Z2 => nx h2 (by rw [eL]; exact Z2))
      · rw [if_pos (by omega)] at eL
        exact W_readKindLine Y1 R1 I1 st1 i1 i2 h25 (fun h2 Z2 => nx h2 (by rw [eL]; exact Z2))
    · rw [if_neg go] at H
      have T := T_191 (d := d) (i := i) (Q := Q) (X := X) Z0 R H
      exact ⟨Z.k5, ir (by omega) (by omega), ir (by omega) (by omega), fun _ => ⟨Z.k5, ir (by omega) (by omega), fun c => ⟨Z.k5, ir (by omega) (by omega), ir (by omega) (by omega), fun c1 => absurd ⟨c, by omega⟩ go, fun _ => T⟩, fun _ => T⟩, fun _ => T⟩
end TXL
