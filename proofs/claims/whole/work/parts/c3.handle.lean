/-! the class reads handle lines -/
section HNV
variable {call : PC} {mc ms fr : Nat} {Q : Int → PH → Prop} {X : Nat → PH → Prop} {K : PK}
set_option maxRecDepth 100000 in
theorem v_X4_readHandleLine_0 (a0 : Nat) (z1 : Option PV) (z2 : Option PV) (z3 : Option PV) (z4 : Option PV) (h : PH) (c s : Nat) (H : hk h a0 = 5 ∧ call m_X4_advance [pA a0] h (fun _ h1 =>
 hk h1 a0 = 5 ∧ hk h1 (hr h1 a0 2) = 6 ∧ hk h1 a0 = 5 ∧ call m_X4_takeName [pA a0, pA (hr h1 (hr h1 a0 2) 1)] h1 (fun x2 h2 =>
 hk h2 a0 = 5 ∧ hk h2 (hr h2 a0 2) = 6 ∧ hk h2 a0 = 5 ∧ call m_X4_knownName [pA a0, pA (hr h2 (hr h2 a0 2) 0)] h2 (fun x3 h3 =>
 hk h3 a0 = 5 ∧ InR (hi h3 a0 9) ∧ ((hi h3 a0 9) = 0 →
 hk h3 a0 = 5 ∧ hk h3 (hr h3 a0 2) = 6 ∧ call m_X5_ticksOf [pA (hr h3 a0 2), pI x2, pI x3] h3 (fun x4 h4 =>
 InR x4 ∧ (0 < x4 →
 hk h4 a0 = 5 ∧ call m_X4_fail [pA a0, pI 3] h4 (fun _ h5 =>
 K 52 [some (pA a0), some (pI x2), some (pI x3), z3, z4] [] h5 c s) X) ∧
(x4 ≤ 0 →
 K 52 [some (pA a0), some (pI x2), some (pI x3), z3, z4] [] h4 c s)) X) ∧
((hi h3 a0 9) ≠ 0 →
 K 52 [some (pA a0), some (pI x2), some (pI x3), z3, z4] [] h3 c s)) X) X) X) : wpc k_X4_readHandleLine [] call mc ms fr Q X [52, 85] K 400 (pto 0 k_X4_readHandleLine) [some (pA a0), z1, z2, z3, z4] [] h c s :=
  H

set_option maxRecDepth 100000 in
theorem v_X4_readHandleLine_52 (a0 : Nat) (i1 : Int) (i2 : Int) (z3 : Option PV) (z4 : Option PV) (h : PH) (c s : Nat) (H : hk h a0 = 5 ∧ call m_X4_advance [pA a0] h (fun _ h1 =>
 hk h1 a0 = 5 ∧ call m_X4_takeNumber [pA a0, pI 1, pI 20] h1 (fun x2 h2 =>
 hk h2 a0 = 5 ∧ InR (hi h2 a0 9) ∧ ((hi h2 a0 9) = 0 →
 hk h2 a0 = 5 ∧ hk h2 (hr h2 a0 2) = 6 ∧ call m_X5_addHandler [pA (hr h2 a0 2), pI i1, pI i2, pI x2] h2 (fun _ h3 =>
 K 85 [some (pA a0), some (pI i1), some (pI i2), some (pI x2), some (pI 0)] [] h3 c s) X) ∧
((hi h2 a0 9) ≠ 0 →
 Q 0 h2)) X) X) : wpc k_X4_readHandleLine [] call mc ms fr Q X [52, 85] K 400 (pto 52 k_X4_readHandleLine) [some (pA a0), some (pI i1), some (pI i2), z3, z4] [] h c s :=
  H

set_option maxRecDepth 100000 in
theorem v_X4_readHandleLine_85 (a0 : Nat) (i1 : Int) (i2 : Int) (i3 : Int) (i4 : Int) (h : PH) (c s : Nat) (H : InR i4 ∧ InR 4 ∧ (4 < i4 →
 Q 0 h) ∧
(i4 ≤ 4 →
 hk h a0 = 5 ∧ InR (hi h a0 9) ∧ ((hi h a0 9) = 0 →
 hk h a0 = 5 ∧ InR (hi h a0 4) ∧ ((hi h a0 4) = 0 →
 hk h a0 = 5 ∧ call m_X4_readAct [pA a0, pI i1, pI i2, pI i4] h (fun _ h1 =>
 K 85 [some (pA a0), some (pI i1), some (pI i2), some (pI i3), some (pI (i4 + 1))] [] h1 c s) X) ∧
((hi h a0 4) ≠ 0 →
 Q 0 h)) ∧
((hi h a0 9) ≠ 0 →
 Q 0 h))) : wpc k_X4_readHandleLine [] call mc ms fr Q X [52, 85] K 400 (pto 85 k_X4_readHandleLine) [some (pA a0), some (pI i1), some (pI i2), some (pI i3), some (pI i4)] [] h c s :=
  H

end HNV
section HNL
variable {d p b : Nat} {h0 h : PH} {D : Nat → Int → Int} {s : Int → Int} {Q : Int → PH → Prop} {X : Nat → PH → Prop}
theorem L_acts {vp vk g v : Int} (hp : 0 ≤ vp ∧ vp < 6) (hkx : 0 ≤ vk ∧ vk < 8) (eg : g = 8 * vp + vk) : ∀ (n : Nat) (i : Int) (D : Nat → Int → Int) (h : PH), LNR h0 h p b D s → PR D → RI D → 0 < D 15 g → i + n = 5 → 0 ≤ i → (D 0 25 = 0 → i = D 16 g) → (∀ h', LNR h0 h' p b (lal g n D) s → Q 0 h') →
    WP k_X4_readHandleLine [] (RUN GQ (d + 9)) 0 0 (d + 10) Q X 85 [some (pA p), some (pI vp), some (pI vk), some (pI v), some (pI i)] [] h 0 0 := by
  intro n
  induction n with
  | zero =>
    intro i D h Z0 R I h15 hn' i0 e16 H
    refine WP.of (RUN.mono GQ _) (cuts := [52, 85]) (n := 400) (v_X4_readHandleLine_85 _ _ _ _ _ _ _ _ ?_)
    exact ⟨ir (by omega) (by omega), ir (by omega) (by omega), fun _ => H h Z0, fun c => absurd c (by omega)⟩
  | succ n ih =>
    intro i D h Z0 R I h15 hn' i0 e16 H
    refine WP.of (RUN.mono GQ _) (cuts := [52, 85]) (n := 400) (v_X4_readHandleLine_85 _ _ _ _ _ _ _ _ ?_)
    have Zc := Z0
    obtain ⟨ES, EP, E, f1, f2, K1, K2, Z, G⟩ := Zc
    have e : lal g (n + 1) D = if D 0 25 = 0 ∧ D 0 23 = 1 then lal g n (laD D g) else D := rfl
    rw [e] at H
    have f9 : hi h p 9 = D 0 25 := (Z.S.f9 0 (by decide)).trans Z.P.2.2.2.2.2.1
    have f4 : hi h p 4 = tkc (D 0 23) := (Z.S.f4 0 (by decide)).trans Z.P.2.1
    have tk := tkc_or (D 0 23)
    have e25 := R.e25
    rw [f9, f4]
    refine ⟨ir (by omega) (by omega), ir (by omega) (by omega), fun c => absurd c (by omega), fun _ => ⟨Z.k5, ir (by omega) (by omega), fun c => ⟨Z.k5, ir (by omega) (by omega), fun c1 => ⟨Z.k5, ?_⟩, fun c1 => ?_⟩, fun c => ?_⟩⟩
    · rw [if_pos ⟨c, by omega⟩] at H
      refine W_readAct Z0 R I c hp hkx eg (e16 c) (fun h1 Z1 => ?_)
      have l16 := la_16 R g
      refine ih (i + 1) (laD D g) h1 Z1 (PR.la R g) (RI.la I R (by omega) h15) (by rw [la_15 R g]; exact h15) (by omega) (by omega) (fun z => ?_) H
      rw [la_0] at z
      rw [l16.1, if_pos z, e16 c]
    · rw [if_neg (by omega)] at H
      exact H h Z0
    · rw [if_neg (fun y => c y.1)] at H
      exact H h Z0
theorem W_readHandleLine (Z0 : LNR h0 h p b D s) (R : PR D) (I : RI D) (h25 : D 0 25 = 0) (H : ∀ h', LNR h0 h' p b (lnD D) s → Q 0 h') : RUN GQ (d + 10) m_X4_readHandleLine [pA p] h Q X := by
  obtain ⟨ES, EP, E, f1, f2, K1, K2, Z, G⟩ := Z0
  obtain ⟨⟨⟨g1, g2⟩, g3, g4⟩, pl, hr', n8⟩ := G h25
  rw [e_X4_readHandleLine]
  have S0 : ST D (gD D) := (ST.refl R).go
  have SB : ST D (lhB D) := ((ST.refl R).go.nh _ _).go
  have SC' : ST D (lhC D) := ST_lhC R
  have SE := ST_lnE R
  have SF := ST_lnF R
  have ST' := ST_lnT R
  -- the ticks, then the acts
  have t52 : ∀ (h4 : PH) (ES4 : Nat → Int → Int) (vp vk : Int) (z3 z4 : Option PV), PWs h0 h4 p b ES4 EP E (lnE D) f1 f2 K1 K2 → ES4 0 8 = ES 0 8 → (lhC D 0 25 = 0 → vp = lhp D ∧ vk = lhk D) → WP k_X4_readHandleLine [] (RUN GQ (d + 9)) 0 0 (d + 10) Q X 52 [some (pA p), some (pI vp), some (pI vk), z3, z4] [] h4 0 0 := by
    intro h4 ES4 vp vk z3 z4 Z4 q4 t4
    refine WP.of (RUN.mono GQ _) (cuts := [52, 85]) (n := 400) (v_X4_readHandleLine_52 _ _ _ _ _ _ _ _ ?_)
    refine ⟨Z4.k5, W_advance Z4 SE.P (fun h5 ES5 Z5 q5 => ?_)⟩
    have Z5 : PWs h0 h5 p b ES5 EP E (lnF D) f1 f2 K1 K2 := Z5
    refine ⟨Z5.k5, W_takeNumber Z5 SF.P (ir (by omega) (by omega)) (ir (by omega) (by omega)) (fun v h6 ES6 Z6 q6 t6 => ?_)⟩
    have Z6 : PWs h0 h6 p b ES6 EP E (lnT D) f1 f2 K1 K2 := Z6
    have q8 : ES6 0 8 = ES 0 8 := q6.trans (q5.trans q4)
    have e25 := ST'.P.e25
    have f9 : hi h6 p 9 = lnT D 0 25 := (Z6.S.f9 0 (by decide)).trans Z6.P.2.2.2.2.2.1
    rw [f9, Z6.r2]
    refine ⟨Z6.k5, ir (by omega) (by omega), fun c => ⟨Z6.k5, Z6.L.k 0 (by decide) rfl, ?_⟩, fun c => ?_⟩
    · have ok := ln_ok R I.K c
      have lo := lh_ok R I.K ok.1
      have k31 := I.K.1
      have k32 := I.K.2.1
      obtain ⟨x1, x2⟩ := t4 ok.1
      have xv : v = tvV (lnF D) 1 20 := t6 ((go_25 _).symm.trans c)
      subst x1; subst x2; subst xv
      have hp : 0 ≤ lhp D ∧ lhp D < 6 := ⟨lo.1.1, by omega⟩
      have hkx : 0 ≤ lhk D ∧ lhk D < 8 := ⟨lo.2.1, by omega⟩
      have eg : lng D = 8 * lhp D + lhk D := rfl
      obtain ⟨IR, h15, h16⟩ := I.lnR R c
      refine S_X5_addHandler Z6.L hp hkx (fun x h7 ex L7 => ?_)
      rw [show lhp D * 8 + lhk D = lng D by omega] at L7
      have rj : ∀ j, j ≠ 0 → j ≠ 15 → lnR D j = D j := fun j a a' => by
        unfold lnR
        rw [dst_row a, dst_row a', ST'.r a]
      have r15 : ∀ e, lnR D 15 e = if e = lng D then tvV (lnF D) 1 20 else D 15 e := fun e => by
        unfold lnR
        rw [dst_row (by decide)]
        by_cases y : e = lng D
        · rw [if_pos y, y, dst_eq]
        · rw [if_neg y, dst_ne y, ST'.r (by decide)]
      have r0 : ∀ e, e ≠ 33 → lnR D 0 e = lnT D 0 e := fun e a => by
        unfold lnR
        rw [dst_ne a, dst_row (by decide)]
      have rf : ∀ e, e < 21 ∨ 26 < e → e ≠ 33 → lnR D 0 e = D 0 e := fun e a a' => (r0 e a').trans (ST'.f a)
      have N7 : NMs (dst EP 7 (lng D) (tvV (lnF D) 1 20)) f1 f2 K1 K2 := by
        unfold NMs
        rw [dst_row (by decide), dst_row (by decide), dst_row (by decide), dst_row (by decide), dst_row (by decide), dst_row (by decide)]
        exact Z6.N
      have Z7 := (Z6.l L7 N7).dd (D' := lnR D) ((rj 10 (by decide) (by decide)).trans (ST'.r (by decide)).symm) (Z6.P.of (fun e _ _ => r0 e (by omega)))
      have Y7 : LNR h0 h7 p b (lnR D) s := by
        refine ⟨ES6, _, E, f1, f2, K1, K2, Z7, fun _ => ⟨⟨⟨?_, ?_⟩, ?_, ?_⟩, ⟨fun e a a' => ⟨?_, ?_⟩, fun g' i w a a1 a2 a3 a4 a5 => ?_⟩, ?_, ?_⟩⟩
        · rw [rj 11 (by decide) (by decide)]; exact g1
        · rw [rf 31 (by decide) (by decide)]; exact g2
        · rw [rj 12 (by decide) (by decide)]; exact g3
        · rw [rf 32 (by decide) (by decide)]; exact g4
        · rw [r15]
          by_cases y : e = lng D
          · rw [if_pos y, y, dst_eq]
          · rw [if_neg y, dst_ne y]
            exact (pl.1 e a a').1
        · rw [dst_row (by decide), rj 16 (by decide) (by decide)]
          exact (pl.1 e a a').2
        · rw [rj 16 (by decide) (by decide)] at a3
          rw [dst_row (by decide), rj 17 (by decide) (by decide)]
          exact pl.2 g' i w a a1 a2 a3 a4 a5
        · rw [rf 30 (by decide) (by decide), rf 31 (by decide) (by decide), bcS_same (rf 34 (by decide) (by decide)) (rf 30 (by decide) (by decide)) (rf 27 (by decide) (by decide)) (rf 28 (by decide) (by decide)) (rf 29 (by decide) (by decide)) (fun e _ _ => by rw [rj 18 (by decide) (by decide)]) (rj 13 (by decide) (by decide)) (rj 14 (by decide) (by decide)) I.h34.1]
          exact hr'
        · rw [q8, n8, rf 34 (by decide) (by decide)]
      have RR' : PR (lnR D) := (ST'.P.row (lng D) (tvV (lnF D) 1 20) (by decide) (by decide)).f (by decide)
      refine L_acts hp hkx eg 5 0 (lnR D) h7 Y7 RR' IR h15 (by decide) (by decide) (fun _ => by rw [rj 16 (by decide) (by decide)]; exact h16.symm) (fun h8 Z8 => H h8 ?_)
      have e : lnD D = lal (lng D) 5 (lnR D) := if_pos c
      rw [e]
      exact Z8
    · have e : lnD D = lnT D := if_neg c
      exact H h6 ⟨ES6, EP, E, f1, f2, K1, K2, by rw [e]; exact Z6, fun z => absurd z (by rw [e]; exact c)⟩
  refine WP.of (RUN.mono GQ _) (cuts := [52, 85]) (n := 400) (v_X4_readHandleLine_0 _ _ _ _ _ _ _ _ ?_)
  refine ⟨Z.k5, W_advance Z R (fun h1 ES1 Z1 q1 => ?_)⟩
  rw [Z1.r2, show hr h1 b 1 = b + 4 from Bx.r Z1.L 0 1 4 (by decide)]
  refine ⟨Z1.k5, Z1.L.k 0 (by decide) rfl, Z1.k5, ?_⟩
  have e32 : gD D 0 32 = D 0 32 := S0.f (by decide)
  refine W_takeName_p Z1 S0.P (fun _ => ⟨by rw [S0.r (by decide)]; exact g3, by rw [e32]; exact g4⟩) (fun vp h2 ES2 Z2 q2 t2 b2 => ?_)
  rw [e32] at Z2 t2
  have Z2 : PWs h0 h2 p b ES2 EP E (lhB D) f1 f2 K1 K2 := Z2
  rw [Z2.r2, show hr h2 b 0 = b + 1 from Bx.r Z2.L 0 0 1 (by decide)]
  refine ⟨Z2.k5, Z2.L.k 0 (by decide) rfl, Z2.k5, ?_⟩
  have e31 : lhB D 0 31 = D 0 31 := SB.f (by decide)
  refine W_knownName_k Z2 SB.P (fun _ => ⟨by rw [SB.r (by decide)]; exact g1, by rw [e31]; exact g2⟩) (fun vk h3 ES3 Z3 q3 t3 b3 => ?_)
  rw [e31] at Z3 t3
  have Z3 : PWs h0 h3 p b ES3 EP E (lhC D) f1 f2 K1 K2 := Z3
  have t3 : lhC D 0 25 = 0 → vk = lhk D := t3
  have q8 : ES3 0 8 = ES 0 8 := q3.trans (q2.trans q1)
  have both : lhC D 0 25 = 0 → vp = lhp D ∧ vk = lhk D := fun c => by
    have cB : lhB D 0 25 = 0 := ((ST.refl SB.P).nh 11 (D 0 31)).e c
    exact ⟨t2 ((go_25 _).symm.trans cB), t3 c⟩
  have e25 := SC'.P.e25
  have f9 : hi h3 p 9 = lhC D 0 25 := (Z3.S.f9 0 (by decide)).trans Z3.P.2.2.2.2.2.1
  rw [f9, Z3.r2]
  refine ⟨Z3.k5, ir (by omega) (by omega), fun c => ⟨Z3.k5, Z3.L.k 0 (by decide) rfl, ?_⟩, fun c => ?_⟩
  · obtain ⟨xp, xk⟩ := both c
    have lo := lh_ok R I.K c
    have k31 := I.K.1
    have k32 := I.K.2.1
    have ag := I.a (g := lng D) (by unfold lng; omega) (by unfold lng; omega)
    have ag1 := ag.1
    have C15 : lhC D 15 = D 15 := SC'.r (by decide)
    refine S_X5_ticksOf Z3.L (by omega) (by omega) (fun x ex => ?_)
    have ex' : x = D 15 (lng D) := by
      rw [ex, xp, xk, show lhp D * 8 + lhk D = lng D by unfold lng; omega]
      exact (pl.1 _ (by unfold lng; omega) (by unfold lng; omega)).1
    refine ⟨ir (by omega) (by omega), fun y => ⟨Z3.k5, ?_⟩, fun y => ?_⟩
    · have eE : lnE D = flD (lhC D) 3 := if_pos ⟨c, by rw [C15]; omega⟩
      refine W_fail Z3 SC'.P (fun h4 ES4 Z4 q4 => ?_)
      rw [← eE] at Z4
      exact t52 h4 ES4 vp vk _ _ Z4 (q4.trans q8) both
    · have eE : lnE D = lhC D := if_neg (fun w => by have := w.2; rw [C15] at this; omega)
      exact t52 h3 ES3 vp vk _ _ (by rw [eE]; exact Z3) q8 both
  · have eE : lnE D = lhC D := if_neg (fun w => c w.1)
    exact t52 h3 ES3 vp vk _ _ (by rw [eE]; exact Z3) q8 both
end HNL
