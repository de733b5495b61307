/-! the class reads acts -/
section ACV
variable {call : PC} {mc ms fr : Nat} {Q : Int → PH → Prop} {X : Nat → PH → Prop} {K : PK}
set_option maxRecDepth 100000 in
theorem v_X4_readAct_0 (a0 : Nat) (i1 : Int) (i2 : Int) (i3 : Int) (z4 : Option PV) (z5 : Option PV) (z6 : Option PV) (z7 : Option PV) (h : PH) (c s : Nat) (H : hk h a0 = 5 ∧ call m_X4_actType [pA a0] h (fun x1 h1 =>
 InR x1 ∧ InR ((-1)) ∧ (x1 = ((-1)) →
 hk h1 a0 = 5 ∧ call m_X4_fail [pA a0, pI 1] h1 (fun _ h2 =>
 InR i3 ∧ InR 4 ∧ (i3 < 4 →
 hk h2 a0 = 5 ∧ call m_X4_takeFirstWord [pA a0, pI 1] h2 (fun _ h3 =>
 K 31 [some (pA a0), some (pI i1), some (pI i2), some (pI i3), some (pI x1), z5, z6, z7] [] h3 c s) X) ∧
(4 ≤ i3 →
 hk h2 a0 = 5 ∧ call m_X4_takeFirstWord [pA a0, pI 0] h2 (fun _ h4 =>
 K 31 [some (pA a0), some (pI i1), some (pI i2), some (pI i3), some (pI x1), z5, z6, z7] [] h4 c s) X)) X) ∧
(x1 ≠ ((-1)) →
 InR i3 ∧ InR 4 ∧ (i3 < 4 →
 hk h1 a0 = 5 ∧ call m_X4_takeFirstWord [pA a0, pI 1] h1 (fun _ h5 =>
 K 31 [some (pA a0), some (pI i1), some (pI i2), some (pI i3), some (pI x1), z5, z6, z7] [] h5 c s) X) ∧
(4 ≤ i3 →
 hk h1 a0 = 5 ∧ call m_X4_takeFirstWord [pA a0, pI 0] h1 (fun _ h6 =>
 K 31 [some (pA a0), some (pI i1), some (pI i2), some (pI i3), some (pI x1), z5, z6, z7] [] h6 c s) X))) X) : wpc k_X4_readAct [] call mc ms fr Q X [31, 78] K 400 (pto 0 k_X4_readAct) [some (pA a0), some (pI i1), some (pI i2), some (pI i3), z4, z5, z6, z7] [] h c s :=
  H

set_option maxRecDepth 100000 in
theorem v_X4_readAct_31 (a0 : Nat) (i1 : Int) (i2 : Int) (i3 : Int) (i4 : Int) (z5 : Option PV) (z6 : Option PV) (z7 : Option PV) (h : PH) (c s : Nat) (H : hk h a0 = 5 ∧ hk h (hr h a0 2) = 6 ∧ hk h a0 = 5 ∧ call m_X4_takeName [pA a0, pA (hr h (hr h a0 2) 0)] h (fun x1 h1 =>
 InR i4 ∧ (i4 = 0 →
 hk h1 a0 = 5 ∧ hk h1 (hr h1 a0 2) = 6 ∧ hk h1 a0 = 5 ∧ call m_X4_takeName [pA a0, pA (hr h1 (hr h1 a0 2) 1)] h1 (fun x2 h2 =>
 hk h2 a0 = 5 ∧ call m_X4_takeNumber [pA a0, pI 0, pI 999] h2 (fun x3 h3 =>
 K 78 [some (pA a0), some (pI i1), some (pI i2), some (pI i3), some (pI i4), some (pI x1), some (pI x2), some (pI x3)] [] h3 c s) X) X) ∧
(i4 ≠ 0 →
 K 78 [some (pA a0), some (pI i1), some (pI i2), some (pI i3), some (pI i4), some (pI x1), some (pI ((-1))), some (pI ((-1)))] [] h1 c s)) X) : wpc k_X4_readAct [] call mc ms fr Q X [31, 78] K 400 (pto 31 k_X4_readAct) [some (pA a0), some (pI i1), some (pI i2), some (pI i3), some (pI i4), z5, z6, z7] [] h c s :=
  H

set_option maxRecDepth 100000 in
theorem v_X4_readAct_78 (a0 : Nat) (i1 : Int) (i2 : Int) (i3 : Int) (i4 : Int) (i5 : Int) (i6 : Int) (i7 : Int) (h : PH) (c s : Nat) (H : hk h a0 = 5 ∧ InR (hi h a0 9) ∧ ((hi h a0 9) = 0 →
 hk h a0 = 5 ∧ hk h (hr h a0 2) = 6 ∧ call m_X5_addAct [pA (hr h a0 2), pI i1, pI i2, pI i4, pI i5, pI i6, pI i7] h (fun _ h1 =>
 Q 0 h1) X) ∧
((hi h a0 9) ≠ 0 →
 Q 0 h)) : wpc k_X4_readAct [] call mc ms fr Q X [31, 78] K 400 (pto 78 k_X4_readAct) [some (pA a0), some (pI i1), some (pI i2), some (pI i3), some (pI i4), some (pI i5), some (pI i6), some (pI i7)] [] h c s :=
  H

end ACV
section ACT
variable {d p b : Nat} {h0 h : PH} {D : Nat → Int → Int} {s : Int → Int} {Q : Int → PH → Prop} {X : Nat → PH → Prop}
theorem W_readAct {vp vk n g : Int} (Z0 : LNR h0 h p b D s) (R : PR D) (I : RI D) (h25 : D 0 25 = 0) (hp : 0 ≤ vp ∧ vp < 6) (hkx : 0 ≤ vk ∧ vk < 8) (eg : g = 8 * vp + vk) (en : n = D 16 g) (H : ∀ h', LNR h0 h' p b (laD D g) s → Q 0 h') : RUN GQ (d + 9) m_X4_readAct [pA p, pI vp, pI vk, pI n] h Q X := by
  obtain ⟨ES, EP, E, f1, f2, K1, K2, Z, G⟩ := Z0
  obtain ⟨⟨⟨g1, g2⟩, g3, g4⟩, pl, hr', n8⟩ := G h25
  have ag := (I.a (g := g) (by omega) (by omega)).2.1
  have SB := ST_laB R g
  have SC' := ST_laC R g
  have SE := ST_laE R g
  have SG' := ST_laG R g
  have sF := ST_laF R
  rw [e_X4_readAct]
  -- the act is added
  have t78 : ∀ (h5 : PH) (ES5 : Nat → Int → Int) (vt ak ap av : Int), PWs h0 h5 p b ES5 EP E (laG D g) f1 f2 K1 K2 → ES5 0 8 = ES 0 8 → (laG D g 0 25 = 0 → vt = aht D ∧ ak = lak D g ∧ ap = lap D g ∧ av = lav D g) → WP k_X4_readAct [] (RUN GQ (d + 8)) 0 0 (d + 9) Q X 78 [some (pA p), some (pI vp), some (pI vk), some (pI n), some (pI vt), some (pI ak), some (pI ap), some (pI av)] [] h5 0 0 := by
    intro h5 ES5 vt ak ap av Z5 q5 t5
    refine WP.of (RUN.mono GQ _) (cuts := [31, 78]) (n := 400) (v_X4_readAct_78 _ _ _ _ _ _ _ _ _ _ _ ?_)
    have e25 := SG'.P.e25
    have f9 : hi h5 p 9 = laG D g 0 25 := (Z5.S.f9 0 (by decide)).trans Z5.P.2.2.2.2.2.1
    rw [f9, Z5.r2]
    refine ⟨Z5.k5, ir (by omega) (by omega), fun c => ⟨Z5.k5, Z5.L.k 0 (by decide) rfl, ?_⟩, fun c => ?_⟩
    · obtain ⟨x1, x2, x3, x4⟩ := t5 c
      subst x1; subst x2; subst x3; subst x4
      have ro := la_room c
      have p8 : EP 8 (vp * 8 + vk) = D 16 g := by
        rw [show vp * 8 + vk = g by omega]
        exact (pl.1 g (by omega) (by omega)).2
      refine S_X5_addAct Z5.L hp hkx (by rw [p8]; omega) (fun x h6 ex L6 => ?_)
      rw [p8, show vp * 8 + vk = g by omega] at L6
      have ek : laD D g = dst (dst (dst (dst (dst (laG D g) 17 (4 * (4 * g + D 16 g)) (aht D)) 17 (4 * (4 * g + D 16 g) + 1) (lak D g)) 17 (4 * (4 * g + D 16 g) + 2) (lap D g)) 17 (4 * (4 * g + D 16 g) + 3) (lav D g)) 16 g (D 16 g + 1) := if_pos c
      have r0 : laD D g 0 = laG D g 0 := la_0 g
      have rf : ∀ e, e < 21 ∨ 26 < e → laD D g 0 e = D 0 e := fun e a => by rw [r0, SG'.f a]
      have rj : ∀ j, j ≠ 0 → j ≠ 16 → j ≠ 17 → laD D g j = D j := fun j a a' a'' => la_row R g a a' a''
      have oj : ∀ j, j ≠ 8 → j ≠ 9 → dst (dst (dst (dst (dst EP 9 ((g * 4 + D 16 g) * 4 + 0) (aht D)) 9 ((g * 4 + D 16 g) * 4 + 1) (lak D g)) 9 ((g * 4 + D 16 g) * 4 + 2) (lap D g)) 9 ((g * 4 + D 16 g) * 4 + 3) (lav D g)) 8 g (D 16 g + 1) j = EP j := fun j a a' => by
        rw [dst_row a, dst_row a', dst_row a', dst_row a', dst_row a']
      have N6 : NMs (dst (dst (dst (dst (dst EP 9 ((g * 4 + D 16 g) * 4 + 0) (aht D)) 9 ((g * 4 + D 16 g) * 4 + 1) (lak D g)) 9 ((g * 4 + D 16 g) * 4 + 2) (lap D g)) 9 ((g * 4 + D 16 g) * 4 + 3) (lav D g)) 8 g (D 16 g + 1)) f1 f2 K1 K2 := by
        unfold NMs
        rw [oj 1 (by decide) (by decide), oj 2 (by decide) (by decide), oj 3 (by decide) (by decide), oj 4 (by decide) (by decide), oj 5 (by decide) (by decide), oj 6 (by decide) (by decide)]
        exact Z5.N
      have Z6 := (Z5.l L6 N6).dd (D' := laD D g) ((rj 10 (by decide) (by decide) (by decide)).trans (SG'.r (by decide)).symm) (Z5.P.of (fun e _ _ => by rw [r0]))
      refine H h6 ⟨ES5, _, E, f1, f2, K1, K2, Z6, fun _ => ⟨⟨⟨?_, ?_⟩, ?_, ?_⟩, ⟨fun e a a' => ⟨?_, ?_⟩, fun g' i w a a1 a2 a3 a4 a5 => ?_⟩, ?_, ?_⟩⟩
      · rw [rj 11 (by decide) (by decide) (by decide)]; exact g1
      · rw [rf 31 (by decide)]; exact g2
      · rw [rj 12 (by decide) (by decide) (by decide)]; exact g3
      · rw [rf 32 (by decide)]; exact g4
      · rw [oj 7 (by decide) (by decide), rj 15 (by decide) (by decide) (by decide)]
        exact (pl.1 e a a').1
      · rw [ek]
        by_cases y : e = g
        · rw [y, dst_eq, dst_eq]
        · rw [dst_ne y, dst_ne y, dst_row (by decide), dst_row (by decide), dst_row (by decide), dst_row (by decide), dst_row (by decide), dst_row (by decide), dst_row (by decide), dst_row (by decide), SG'.r (by decide)]
          exact (pl.1 e a a').2
      · have e16 : ∀ e, laD D g 16 e = if e = g then D 16 g + 1 else D 16 e := fun e => by
          rw [ek]
          by_cases y : e = g
          · rw [if_pos y, y, dst_eq]
          · rw [if_neg y, dst_ne y, dst_row (by decide), dst_row (by decide), dst_row (by decide), dst_row (by decide), SG'.r (by decide)]
        rw [e16] at a3
        rw [ek, dst_row (by decide : (9 : Nat) ≠ 8), dst_row (by decide : (17 : Nat) ≠ 16)]
        have ix : ∀ w', (g * 4 + D 16 g) * 4 + w' = 4 * (4 * g + D 16 g) + w' := fun w' => by omega
        rw [show (g' * 4 + i) * 4 + w = 4 * (4 * g' + i) + w by omega, ix, ix, ix, ix]
        by_cases y : g' = g ∧ i = D 16 g
        · rw [y.1, y.2]
          have hw : w = 0 ∨ w = 1 ∨ w = 2 ∨ w = 3 := by omega
          rcases hw with rfl | rfl | rfl | rfl
          · rw [dst_ne (by omega), dst_ne (by omega), dst_ne (by omega), dst_eq, dst_ne (by omega), dst_ne (by omega), dst_ne (by omega), Int.add_zero, dst_eq]
          · rw [dst_ne (by omega), dst_ne (by omega), dst_eq, dst_ne (by omega), dst_ne (by omega), dst_eq]
          · rw [dst_ne (by omega), dst_eq, dst_ne (by omega), dst_eq]
          · rw [dst_eq, dst_eq]
        · have hi16 : i < D 16 g' ∧ D 16 g' ≤ 4 := by
            have q := (I.a (g := g') a a1).2.1
            by_cases z : g' = g
            · rw [if_pos z] at a3
              rw [z]
              omega
            · rw [if_neg z] at a3
              omega
          rw [dst_ne (by omega), dst_ne (by omega), dst_ne (by omega), dst_ne (by omega), dst_ne (by omega), dst_ne (by omega), dst_ne (by omega), dst_ne (by omega), SG'.r (by decide), ← pl.2 g' i w a a1 a2 hi16.1 a4 a5]
          exact congrArg (EP 9) (by omega)
      · rw [rf 30 (by decide), rf 31 (by decide), bcS_same (rf 34 (by decide)) (rf 30 (by decide)) (rf 27 (by decide)) (rf 28 (by decide)) (rf 29 (by decide)) (fun e _ _ => by rw [rj 18 (by decide) (by decide) (by decide)]) (rj 13 (by decide) (by decide) (by decide)) (rj 14 (by decide) (by decide) (by decide)) I.h34.1]
        exact hr'
      · rw [q5, n8, rf 34 (by decide)]
    · have e : laD D g = laG D g := if_neg c
      exact H h5 ⟨ES5, EP, E, f1, f2, K1, K2, by rw [e]; exact Z5, fun z => absurd z (by rw [e]; exact c)⟩
  -- the names and the number
  have t31 : ∀ (h3 : PH) (ES3 : Nat → Int → Int) (z5 z6 z7 : Option PV), PWs h0 h3 p b ES3 EP E (laB D g) f1 f2 K1 K2 → ES3 0 8 = ES 0 8 → WP k_X4_readAct [] (RUN GQ (d + 8)) 0 0 (d + 9) Q X 31 [some (pA p), some (pI vp), some (pI vk), some (pI n), some (pI (aht D)), z5, z6, z7] [] h3 0 0 := by
    intro h3 ES3 z5 z6 z7 Z3 q3
    refine WP.of (RUN.mono GQ _) (cuts := [31, 78]) (n := 400) (v_X4_readAct_31 _ _ _ _ _ _ _ _ _ _ _ ?_)
    have ah := aht_rng D
    rw [Z3.r2, show hr h3 b 0 = b + 1 from Bx.r Z3.L 0 0 1 (by decide)]
    refine ⟨Z3.k5, Z3.L.k 0 (by decide) rfl, Z3.k5, ?_⟩
    have e31 : laB D g 0 31 = D 0 31 := SB.f (by decide)
    refine W_takeName_k Z3 SB.P (fun _ => ⟨by rw [SB.r (by decide)]; exact g1, by rw [e31]; exact g2⟩) (fun ak h4 ES4 Z4 q4 t4 b4 => ?_)
    rw [e31] at Z4 t4
    have Z4 : PWs h0 h4 p b ES4 EP E (laC D g) f1 f2 K1 K2 := Z4
    have t4 : nhD 11 (D 0 31) (laB D g) 0 25 = 0 → ak = lak D g := t4
    have cC : laC D g 0 25 = 0 → ak = lak D g := fun z => t4 ((go_25 _).symm.trans z)
    refine ⟨ir (by omega) (by omega), fun c => ?_, fun c => ?_⟩
    · rw [Z4.r2, show hr h4 b 1 = b + 4 from Bx.r Z4.L 0 1 4 (by decide)]
      refine ⟨Z4.k5, Z4.L.k 0 (by decide) rfl, Z4.k5, ?_⟩
      have e32 : laC D g 0 32 = D 0 32 := SC'.f (by decide)
      refine W_takeName_p Z4 SC'.P (fun _ => ⟨by rw [SC'.r (by decide)]; exact g3, by rw [e32]; exact g4⟩) (fun ap h5 ES5 Z5 q5 t5 b5 => ?_)
      rw [e32] at Z5 t5
      have eE : laE D g = gD (nhD 12 (D 0 32) (laC D g)) := if_pos c
      rw [← eE] at Z5
      refine ⟨Z5.k5, W_takeNumber Z5 SE.P (ir (by omega) (by omega)) (ir (by omega) (by omega)) (fun v h6 ES6 Z6 q6 t6 => ?_)⟩
      have eG : laG D g = gD (tkE (laE D g) 0 999) := if_pos c
      rw [← eG] at Z6
      refine t78 h6 ES6 _ _ _ _ Z6 (q6.trans (q5.trans (q4.trans q3))) (fun z => ?_)
      rw [eG, go_25] at z
      have z2 : laE D g 0 25 = 0 := ((ST.refl SE.P).tE 0 999).e z
      have z3 : nhD 12 (D 0 32) (laC D g) 0 25 = 0 := by rw [eE, go_25] at z2; exact z2
      have z4 : laC D g 0 25 = 0 := ((ST.refl SC'.P).nh 12 (D 0 32)).e z3
      refine ⟨rfl, cC z4, ?_, ?_⟩
      · unfold lap
        rw [if_pos c]
        exact t5 z3
      · unfold lav
        rw [if_pos c]
        exact t6 z
    · have eE : laE D g = laC D g := if_neg c
      have eG : laG D g = laC D g := by
        unfold laG
        rw [if_neg c, eE]
      refine t78 h4 ES4 _ _ _ _ (by rw [eG]; exact Z4) (q4.trans q3) (fun z => ?_)
      rw [eG] at z
      refine ⟨rfl, cC z, ?_, ?_⟩
      · unfold lap
        rw [if_neg c]
      · unfold lav
        rw [if_neg c]
  refine WP.of (RUN.mono GQ _) (cuts := [31, 78]) (n := 400) (v_X4_readAct_0 _ _ _ _ _ _ _ _ _ _ _ ?_)
  have ah := aht_rng D
  -- the first word
  have fw : ∀ (h2 : PH) (ES2 : Nat → Int → Int) (z : Int) (z5 z6 z7 : Option PV), PWs h0 h2 p b ES2 EP E (laF D) f1 f2 K1 K2 → ES2 0 8 = ES 0 8 → (n < 4 ∧ z = 1 ∨ 4 ≤ n ∧ z = 0) → hk h2 p = 5 ∧ RUN GQ (d + 8) m_X4_takeFirstWord [pA p, pI z] h2 (fun _ h3 => WP k_X4_readAct [] (RUN GQ (d + 8)) 0 0 (d + 9) Q X 31 [some (pA p), some (pI vp), some (pI vk), some (pI n), some (pI (aht D)), z5, z6, z7] [] h3 0 0) X := by
    intro h2 ES2 z z5 z6 z7 Z2 q2 hz
    have eA : (if z = 0 then flD (laF D) 4 else laF D) = laA D g := by
      have e16 : laF D 16 g = D 16 g := by rw [laF_row D (by decide)]
      unfold laA
      rw [e16]
      rcases hz with ⟨y1, y2⟩ | ⟨y1, y2⟩
      · rw [if_neg (by omega), if_neg (by omega)]
      · rw [if_pos y2]
        by_cases y3 : laF D 0 25 = 0
        · rw [if_pos ⟨y3, by omega⟩]
        · rw [if_neg (fun y => y3 y.1)]
          exact if_neg y3
    refine ⟨Z2.k5, W_takeFirstWord Z2 sF.P (by omega) (fun h3 ES3 Z3 q3 => ?_)⟩
    rw [eA] at Z3
    exact t31 h3 ES3 z5 z6 z7 Z3 (q3.trans q2)
  refine ⟨Z.k5, ?_⟩
  refine S_X4_actType Z.r0 Z.F Z.hp R Z.S Z.P h25 Z.W ?_
  refine ⟨ir (by omega) (by omega), ir (by omega) (by omega), fun c => ⟨Z.k5, ?_⟩, fun c => ?_⟩
  · have eF : laF D = flD D 1 := if_pos c
    refine W_fail Z R (fun h2 ES2 Z2 q2 => ?_)
    rw [← eF] at Z2
    exact ⟨ir (by omega) (by omega), ir (by omega) (by omega), fun y => fw h2 ES2 1 _ _ _ Z2 q2 (Or.inl ⟨y, rfl⟩), fun y => fw h2 ES2 0 _ _ _ Z2 q2 (Or.inr ⟨y, rfl⟩)⟩
  · have eF : laF D = D := if_neg c
    have Z2 : PWs h0 h p b ES EP E (laF D) f1 f2 K1 K2 := by rw [eF]; exact Z
    exact ⟨ir (by omega) (by omega), ir (by omega) (by omega), fun y => fw h ES 1 _ _ _ Z2 rfl (Or.inl ⟨y, rfl⟩), fun y => fw h ES 0 _ _ _ Z2 rfl (Or.inr ⟨y, rfl⟩)⟩
end ACT
