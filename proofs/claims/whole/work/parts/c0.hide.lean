/-! the class reads hide lines -/
section TKD
variable {D D' : Nat → Int → Int}
theorem skl_bt (hb : ∀ k, bt D' k = bt D k) : ∀ (n : Nat) (p : Int), skl D' n p = skl D n p
  | 0, _ => rfl
  | n + 1, p => by
    show (if bt D' p = 32 then skl D' n (p + 1) else p) = (if bt D p = 32 then skl D n (p + 1) else p)
    rw [hb, skl_bt hb n]
theorem ltl_bt (hb : ∀ k, bt D' k = bt D k) : ∀ (n : Nat) (p : Int), ltl D' n p = ltl D n p
  | 0, _ => rfl
  | n + 1, p => by
    show (if isL (bt D' p) then ltl D' n (p + 1) else p) = (if isL (bt D p) then ltl D n (p + 1) else p)
    rw [hb, ltl_bt hb n]
theorem dgn_bt (hb : ∀ k, bt D' k = bt D k) : ∀ (n : Nat) (p : Int), dgn D' n p = dgn D n p
  | 0, _ => rfl
  | n + 1, p => by
    show (if isD (bt D' p) then dgn D' n (p + 1) else p) = (if isD (bt D p) then dgn D n (p + 1) else p)
    rw [hb, dgn_bt hb n]
theorem dgv_bt (hb : ∀ k, bt D' k = bt D k) (fr : Int) : ∀ (n : Nat) (p a : Int), dgv D' fr n p a = dgv D fr n p a
  | 0, _, _ => rfl
  | n + 1, p, a => by
    show (if isD (bt D' p) then dgv D' fr n (p + 1) (if p - fr < 3 then 10 * a + bt D' p - 48 else 0) else a) = (if isD (bt D p) then dgv D fr n (p + 1) (if p - fr < 3 then 10 * a + bt D p - 48 else 0) else a)
    rw [hb, dgv_bt hb fr n]
theorem tok_same (h0 : D' 0 = D 0) (h10 : D' 10 = D 10) : tokD D' 0 = tokD D 0 := by
  have hb : ∀ k, bt D' k = bt D k := fun k => by unfold bt; rw [h0, h10]
  have eP : tkP D' = tkP D := by unfold tkP; rw [h0, skl_bt hb]
  have eN : ∀ p, tkN D' p = tkN D p := fun p => by unfold tkN; rw [hb, h0, ltl_bt hb, dgn_bt hb]
  have eS : ∀ p, tkS D' p = tkS D p := fun p => by unfold tkS; rw [hb, h0, ltl_bt hb, dgn_bt hb]
  have eV : ∀ p v, tkV D' p v = tkV D p v := fun p v => by unfold tkV; rw [hb, h0, dgv_bt hb]
  funext e
  unfold tokD
  rw [if_pos rfl, if_pos rfl, eP, eN, eS, eV, h0]
theorem go_same (h0 : D' 0 = D 0) (h10 : D' 10 = D 10) : gD D' 0 = gD D 0 := by
  unfold gD
  rw [h0]
  split
  · exact tok_same h0 h10
  · exact h0
end TKD
section HID
variable {call : PC} {mc ms fr : Nat} {Q : Int → PH → Prop} {X : Nat → PH → Prop} {K : PK}
set_option maxRecDepth 100000 in
theorem v_X4_readHideLine_0 (a0 : Nat) (z1 : Option PV) (z2 : Option PV) (h : PH) (c s : Nat) (H : hk h a0 = 5 ∧ call m_X4_advance [pA a0] h (fun _ h1 =>
 hk h1 a0 = 5 ∧ hk h1 (hr h1 a0 2) = 6 ∧ hk h1 a0 = 5 ∧ call m_X4_takeName [pA a0, pA (hr h1 (hr h1 a0 2) 1)] h1 (fun x2 h2 =>
 hk h2 a0 = 5 ∧ hk h2 (hr h2 a0 2) = 6 ∧ hk h2 a0 = 5 ∧ call m_X4_knownName [pA a0, pA (hr h2 (hr h2 a0 2) 0)] h2 (fun x3 h3 =>
 hk h3 a0 = 5 ∧ InR (hi h3 a0 9) ∧ ((hi h3 a0 9) = 0 →
 hk h3 a0 = 5 ∧ hk h3 (hr h3 a0 3) = 1 ∧ call m_X0_isMasked [pA (hr h3 a0 3), pI x2, pI x3] h3 (fun x4 h4 =>
 InR x4 ∧ (x4 = 0 →
 hk h4 a0 = 5 ∧ call m_X4_advance [pA a0] h4 (fun _ h5 =>
 hk h5 a0 = 5 ∧ InR (hi h5 a0 9) ∧ ((hi h5 a0 9) = 0 →
 hk h5 a0 = 5 ∧ hk h5 (hr h5 a0 3) = 1 ∧ call m_X0_putMask [pA (hr h5 a0 3), pI x2, pI x3, pI 1] h5 (fun _ h6 =>
 Q 0 h6) X) ∧
((hi h5 a0 9) ≠ 0 →
 Q 0 h5)) X) ∧
(x4 ≠ 0 →
 hk h4 a0 = 5 ∧ call m_X4_fail [pA a0, pI 3] h4 (fun _ h7 =>
 hk h7 a0 = 5 ∧ call m_X4_advance [pA a0] h7 (fun _ h8 =>
 hk h8 a0 = 5 ∧ InR (hi h8 a0 9) ∧ ((hi h8 a0 9) = 0 →
 hk h8 a0 = 5 ∧ hk h8 (hr h8 a0 3) = 1 ∧ call m_X0_putMask [pA (hr h8 a0 3), pI x2, pI x3, pI 1] h8 (fun _ h9 =>
 Q 0 h9) X) ∧
((hi h8 a0 9) ≠ 0 →
 Q 0 h8)) X) X)) X) ∧
((hi h3 a0 9) ≠ 0 →
 hk h3 a0 = 5 ∧ call m_X4_advance [pA a0] h3 (fun _ h10 =>
 hk h10 a0 = 5 ∧ InR (hi h10 a0 9) ∧ ((hi h10 a0 9) = 0 →
 hk h10 a0 = 5 ∧ hk h10 (hr h10 a0 3) = 1 ∧ call m_X0_putMask [pA (hr h10 a0 3), pI x2, pI x3, pI 1] h10 (fun _ h11 =>
 Q 0 h11) X) ∧
((hi h10 a0 9) ≠ 0 →
 Q 0 h10)) X)) X) X) X) : wpc k_X4_readHideLine [] call mc ms fr Q X [] K 400 (pto 0 k_X4_readHideLine) [some (pA a0), z1, z2] [] h c s :=
  H

set_option maxRecDepth 100000 in
theorem v_X4_readSendLine_0 (a0 : Nat) (z1 : Option PV) (z2 : Option PV) (z3 : Option PV) (h : PH) (c s : Nat) (H : hk h a0 = 5 ∧ InR (hi h a0 8) ∧ InR 12 ∧ ((hi h a0 8) < 12 →
 hk h a0 = 5 ∧ call m_X4_takeFirstWord [pA a0, pI 1] h (fun _ h1 =>
 hk h1 a0 = 5 ∧ hk h1 a0 = 5 ∧ ∀ h2, h2 = hsi h1 a0 8 ((hi h1 a0 8) + 1) →
 hk h2 a0 = 5 ∧ hk h2 (hr h2 a0 2) = 6 ∧ hk h2 a0 = 5 ∧ call m_X4_takeName [pA a0, pA (hr h2 (hr h2 a0 2) 1)] h2 (fun x3 h3 =>
 hk h3 a0 = 5 ∧ hk h3 (hr h3 a0 2) = 6 ∧ hk h3 a0 = 5 ∧ call m_X4_takeName [pA a0, pA (hr h3 (hr h3 a0 2) 0)] h3 (fun x4 h4 =>
 hk h4 a0 = 5 ∧ call m_X4_takeNumber [pA a0, pI 0, pI 999] h4 (fun x5 h5 =>
 hk h5 a0 = 5 ∧ InR (hi h5 a0 9) ∧ ((hi h5 a0 9) = 0 →
 hk h5 a0 = 5 ∧ hk h5 (hr h5 a0 3) = 1 ∧ call m_X0_sendSignal [pA (hr h5 a0 3), pI x3, pI x4, pI ((-1)), pI x5] h5 (fun x6 h6 =>
 Q 0 h6) X) ∧
((hi h5 a0 9) ≠ 0 →
 Q 0 h5)) X) X) X) X) ∧
(12 ≤ (hi h a0 8) →
 hk h a0 = 5 ∧ call m_X4_takeFirstWord [pA a0, pI 0] h (fun _ h7 =>
 hk h7 a0 = 5 ∧ hk h7 a0 = 5 ∧ ∀ h8, h8 = hsi h7 a0 8 ((hi h7 a0 8) + 1) →
 hk h8 a0 = 5 ∧ hk h8 (hr h8 a0 2) = 6 ∧ hk h8 a0 = 5 ∧ call m_X4_takeName [pA a0, pA (hr h8 (hr h8 a0 2) 1)] h8 (fun x9 h9 =>
 hk h9 a0 = 5 ∧ hk h9 (hr h9 a0 2) = 6 ∧ hk h9 a0 = 5 ∧ call m_X4_takeName [pA a0, pA (hr h9 (hr h9 a0 2) 0)] h9 (fun x10 h10 =>
 hk h10 a0 = 5 ∧ call m_X4_takeNumber [pA a0, pI 0, pI 999] h10 (fun x11 h11 =>
 hk h11 a0 = 5 ∧ InR (hi h11 a0 9) ∧ ((hi h11 a0 9) = 0 →
 hk h11 a0 = 5 ∧ hk h11 (hr h11 a0 3) = 1 ∧ call m_X0_sendSignal [pA (hr h11 a0 3), pI x9, pI x10, pI ((-1)), pI x11] h11 (fun x12 h12 =>
 Q 0 h12) X) ∧
((hi h11 a0 9) ≠ 0 →
 Q 0 h11)) X) X) X) X)) : wpc k_X4_readSendLine [] call mc ms fr Q X [] K 400 (pto 0 k_X4_readSendLine) [some (pA a0), z1, z2, z3] [] h c s :=
  H

end HID
section HDL
variable {d p b : Nat} {h0 h : PH} {D : Nat → Int → Int} {s : Int → Int} {Q : Int → PH → Prop} {X : Nat → PH → Prop}
theorem W_readHideLine (Z0 : LNR h0 h p b D s) (R : PR D) (I : RI D) (st : RS D) (i1 : InR (s (-1))) (i2 : InR (s (-2))) (h25 : D 0 25 = 0) (H : ∀ h', LNR h0 h' p b (lhD D) s → Q 0 h') : RUN GQ (d + 5) m_X4_readHideLine [pA p] h Q X := by
  obtain ⟨ES, EP, E, f1, f2, K1, K2, Z, G⟩ := Z0
  obtain ⟨⟨⟨g1, g2⟩, g3, g4⟩, pl, hr', n8⟩ := G h25
  rw [e_X4_readHideLine]
  refine WP.of (RUN.mono GQ _) (cuts := []) (n := 400) (v_X4_readHideLine_0 _ _ _ _ _ _ ?_)
  have S0 : ST D (gD D) := (ST.refl R).go
  have SB : ST D (lhB D) := ((ST.refl R).go.nh _ _).go
  have SC : ST D (lhC D) := ST_lhC R
  refine ⟨Z.k5, W_advance Z R (fun h1 ES1 Z1 q1 => ?_)⟩
  rw [Z1.r2, show hr h1 b 1 = b + 4 from Bx.r Z1.L 0 1 4 (by decide)]
  refine ⟨Z1.k5, Z1.L.k 0 (by decide) rfl, Z1.k5, ?_⟩
  have e32 : gD D 0 32 = D 0 32 := S0.f (by decide)
  refine W_takeName_p Z1 S0.P (fun _ => ⟨by rw [S0.r (by decide)]; exact g3, by rw [e32]; exact g4⟩) (fun vp h2 ES2 Z2 q2 t2 b2 => ?_)
  rw [e32] at Z2 t2
  have Z2 : PWs h0 h2 p b ES2 EP E (lhB D) f1 f2 K1 K2 := Z2
  rw [Z2.r2, show hr h2 b 0 = b + 1 from Bx.r Z2.L 0 0 1 (by decide)]
  refine ⟨Z2.k5, Z2.L.k 0 (by decide) rfl, Z2.k5, ?_⟩
  have e31 : lhB D 0 31 = D 0 31 := SB.f (by decide)
  refine W_knownName_k Z2 SB.P (fun _ => ⟨by rw [SB.r (by decide)]; exact g1, by rw [e31]; exact g2⟩) (fun vk h3 ES3 Z3 q3 t3 b3 => ?_)
  rw [e31] at Z3 t3
  have Z3 : PWs h0 h3 p b ES3 EP E (lhC D) f1 f2 K1 K2 := Z3
  have t3 : lhC D 0 25 = 0 → vk = lhk D := t3
  have q8 : ES3 0 8 = ES 0 8 := q3.trans (q2.trans q1)
  have e25 := SC.P.e25
  have f9 : hi h3 p 9 = lhC D 0 25 := (Z3.S.f9 0 (by decide)).trans Z3.P.2.2.2.2.2.1
  rw [f9, Z3.r3]
  refine ⟨Z3.k5, ir (by omega) (by omega), fun c => ⟨Z3.k5, Z3.M.k 0 (by decide) rfl, ?_⟩, fun c => ⟨Z3.k5, ?_⟩⟩
  · have xk := t3 c
    have cB : lhB D 0 25 = 0 := ((ST.refl SB.P).nh 11 (D 0 31)).e c
    have xp : vp = lhp D := t2 ((go_25 _).symm.trans cB)
    have ok := lh_ok R I.K c
    have k31 := I.K.1
    have k32 := I.K.2.1
    have hb := (bcS_HI I st i1 i2).2
    rw [(bc_rows D).1.2.1, (bc_rows D).1.2.2.1, (bc_rows D).1.1] at hb
    have two := bc_two I I st st i1 i2 rfl rfl rfl rfl rfl rfl (fun _ _ _ => rfl)
    have m14 : ∀ q, 0 ≤ q → q < 6 → bcS D s (85 + q) = D 14 q := fun q a a' => by
      rw [(two.2 (85 + q) (Or.inr ⟨by omega, by omega⟩)).1, b4_bc, if_pos (by omega), show 85 + q - 85 = q by omega]
    subst xk; subst xp
    refine S_X0_isMasked Z3.M hr' hb ⟨ok.1.1, by omega⟩ (fun x ex => ?_)
    have C14 : lhC D 14 = D 14 := SC.r (by decide)
    have em : msk (bcS D s) (lhp D) (lhk D) = if band (bshr (lhC D 14 (lhp D)) (lhk D)) 1 = 1 then 1 else 0 := by
      unfold msk
      rw [m14 _ ok.1.1 (by omega), C14]
    rw [em] at ex
    by_cases cm : band (bshr (lhC D 14 (lhp D)) (lhk D)) 1 = 1
    · rw [if_pos cm] at ex
      refine ⟨ir (by omega) (by omega), fun z => absurd z (by omega), fun _ => ⟨Z3.k5, W_fail (w := 3) Z3 SC.P (fun h4 ES4 Z4 q4 => ⟨Z4.k5, ?_⟩)⟩⟩
      have eE : lhE D = flD (lhC D) 3 := if_pos ⟨c, cm⟩
      have n25 : flD (lhC D) 3 0 25 ≠ 0 := fl_25 _ (by decide)
      have eF : lhF D = flD (lhC D) 3 := by
        unfold lhF
        rw [eE, if_neg n25]
      refine W_advance Z4 (SC.P.fl (by decide)) (fun h5 ES5 Z5 q5 => ?_)
      have eD : lhD D = gD (flD (lhC D) 3) := by unfold lhD; rw [eF]
      have f9' : hi h5 p 9 = lhD D 0 25 := by rw [eD]; exact (Z5.S.f9 0 (by decide)).trans Z5.P.2.2.2.2.2.1
      have nD : lhD D 0 25 ≠ 0 := by rw [eD, go_25]; exact n25
      have eE' := ((SC.P.fl (w := 3) (by decide)).go).e25
      rw [← eD] at eE'
      rw [f9']
      refine ⟨Z5.k5, ir (by omega) (by omega), fun z => absurd z nD, fun _ => ?_⟩
      exact H h5 ⟨ES5, EP, E, f1, f2, K1, K2, by rw [eD]; exact Z5, fun z => absurd z nD⟩
    · rw [if_neg cm] at ex
      refine ⟨ir (by omega) (by omega), fun _ => ⟨Z3.k5, ?_⟩, fun z => absurd ex z⟩
      have eE : lhE D = lhC D := if_neg (fun y => cm y.2)
      have eF : lhF D = dst (lhC D) 14 (lhp D) (bor (D 14 (lhp D)) (bshl 1 (lhk D))) := by
        unfold lhF
        rw [eE, if_pos c, C14]
      refine W_advance Z3 SC.P (fun h5 ES5 Z5 q5 => ?_)
      have f9' : hi h5 p 9 = 0 := ((Z5.S.f9 0 (by decide)).trans Z5.P.2.2.2.2.2.1).trans ((go_25 _).trans c)
      rw [f9', Z5.r3]
      refine ⟨Z5.k5, ir (by omega) (by omega), fun _ => ⟨Z5.k5, Z5.M.k 0 (by decide) rfl, ?_⟩, fun z => absurd rfl z⟩
      refine S_X0_putMask Z5.M ⟨ok.1.1, by omega⟩ (Or.inr rfl) (fun x6 h6 e6 M6 => ?_)
      rw [if_neg (by decide), hr'.2.1.2.2.2.1 _ ok.1.1 (by omega), m14 _ ok.1.1 (by omega)] at M6
      have Z6 := Z5.m M6 Z5.e6 Z5.e9
      have eD0 : lhD D 0 = gD (lhC D) 0 := by
        unfold lhD
        rw [eF]
        exact go_same (dst_row (by decide)) (dst_row (by decide))
      have eDj : ∀ j, j ≠ 0 → j ≠ 14 → lhD D j = D j := fun j a a' => by
        unfold lhD
        rw [eF, go_row _ a, dst_row a', SC.r a]
      have eDf : ∀ e, e < 21 ∨ 26 < e → lhD D 0 e = D 0 e := fun e a => by
        rw [eD0, go_0 _ a, SC.f a]
      have eD14 : ∀ e, lhD D 14 e = if e = lhp D then bor (D 14 (lhp D)) (bshl 1 (lhk D)) else D 14 e := fun e => by
        unfold lhD
        rw [eF, go_row _ (by decide)]
        by_cases y : e = lhp D
        · rw [if_pos y, y, dst_eq]
        · rw [if_neg y, dst_ne y, C14]
      have Z7 := Z6.dd (D' := lhD D) ((eDj 10 (by decide) (by decide)).trans (by rw [go_row _ (by decide)]; exact (SC.r (by decide)).symm)) (Z6.P.of (fun e _ _ => by rw [eD0]))
      have I' : RI (lhD D) := I.lh R
      have st' : RS (lhD D) := by unfold RS; rw [eDf 27 (by decide), eDf 28 (by decide), eDf 29 (by decide), eDf 30 (by decide)]; exact st
      have two' := bc_two I I' st st' i1 i2 (eDf 34 (by decide)) (eDf 30 (by decide)) (eDf 27 (by decide)) (eDf 28 (by decide)) (eDf 29 (by decide)) (eDj 18 (by decide) (by decide)) (fun e _ _ => by rw [eDj 13 (by decide) (by decide)])
      have sz := HI_sz hb
      refine H h6 ⟨ES5, EP, _, f1, f2, K1, K2, Z7, fun _ => ⟨⟨⟨?_, ?_⟩, ?_, ?_⟩, ?_, ?_, ?_⟩⟩
      · rw [eDj 11 (by decide) (by decide)]; exact g1
      · rw [eDf 31 (by decide)]; exact g2
      · rw [eDj 12 (by decide) (by decide)]; exact g3
      · rw [eDf 32 (by decide)]; exact g4
      · unfold PLr
        rw [eDj 15 (by decide) (by decide), eDj 16 (by decide) (by decide), eDj 17 (by decide) (by decide)]
        exact pl
      · rw [eDf 30 (by decide), eDf 31 (by decide)]
        refine hr'.gen two'.1 (fun j _ a => dst_row a) (fun e a a1 a2 => ?_) (fun e a a1 => ?_) sz.1 sz.2
        · rw [dst_row (by decide), hr'.2.1.2.1 e a a1 a2]
          exact (two'.1 (13 + e) (by unfold ZK; omega)).symm
        · rw [(two'.2 (85 + e) (Or.inr ⟨by omega, by omega⟩)).2, b4_bc, if_pos (by omega), show 85 + e - 85 = e by omega, eD14]
          by_cases y : e = lhp D
          · rw [if_pos y, y, dst_eq]
          · rw [if_neg y, dst_ne y, hr'.2.1.2.2.2.1 e a a1, m14 e a a1]
      · rw [q5, q8, n8, eDf 34 (by decide)]
  · refine W_advance Z3 SC.P (fun h5 ES5 Z5 q5 => ?_)
    have eE : lhE D = lhC D := if_neg (fun y => c y.1)
    have eF : lhF D = lhC D := by
      unfold lhF
      rw [eE, if_neg c]
    have eD : lhD D = gD (lhC D) := by unfold lhD; rw [eF]
    have nD : lhD D 0 25 ≠ 0 := by rw [eD, go_25]; exact c
    have f9' : hi h5 p 9 = lhC D 0 25 := ((Z5.S.f9 0 (by decide)).trans Z5.P.2.2.2.2.2.1).trans (go_25 _)
    rw [f9']
    refine ⟨Z5.k5, ir (by omega) (by omega), fun z => absurd z c, fun _ => ?_⟩
    exact H h5 ⟨ES5, EP, E, f1, f2, K1, K2, by rw [eD]; exact Z5, fun z => absurd z nD⟩
end HDL
