/-! the class reads program and kind lines -/
section BYL
variable {call : PC} {mc ms fr : Nat} {Q : Int → PH → Prop} {X : Nat → PH → Prop} {K : PK}
set_option maxRecDepth 100000 in
theorem v_X4_readProgramLine_0 (a0 : Nat) (h : PH) (c s : Nat) (H : hk h a0 = 5 ∧ hk h (hr h a0 2) = 6 ∧ hk h (hr h (hr h a0 2) 1) = 3 ∧ InR (hi h (hr h (hr h a0 2) 1) 2) ∧ InR 6 ∧ ((hi h (hr h (hr h a0 2) 1) 2) < 6 →
 hk h a0 = 5 ∧ call m_X4_takeFirstWord [pA a0, pI 1] h (fun _ h1 =>
 hk h1 a0 = 5 ∧ hk h1 (hr h1 a0 2) = 6 ∧ hk h1 a0 = 5 ∧ call m_X4_takeNewName [pA a0, pA (hr h1 (hr h1 a0 2) 1)] h1 (fun _ h2 =>
 Q 0 h2) X) X) ∧
(6 ≤ (hi h (hr h (hr h a0 2) 1) 2) →
 hk h a0 = 5 ∧ call m_X4_takeFirstWord [pA a0, pI 0] h (fun _ h3 =>
 hk h3 a0 = 5 ∧ hk h3 (hr h3 a0 2) = 6 ∧ hk h3 a0 = 5 ∧ call m_X4_takeNewName [pA a0, pA (hr h3 (hr h3 a0 2) 1)] h3 (fun _ h4 =>
 Q 0 h4) X) X)) : wpc k_X4_readProgramLine [] call mc ms fr Q X [] K 400 (pto 0 k_X4_readProgramLine) [some (pA a0)] [] h c s :=
  H

set_option maxRecDepth 100000 in
theorem v_X4_readKindLine_0 (a0 : Nat) (z1 : Option PV) (z2 : Option PV) (h : PH) (c s : Nat) (H : hk h a0 = 5 ∧ hk h (hr h a0 2) = 6 ∧ hk h (hr h (hr h a0 2) 0) = 3 ∧ InR (hi h (hr h (hr h a0 2) 0) 2) ∧ InR 8 ∧ ((hi h (hr h (hr h a0 2) 0) 2) < 8 →
 hk h a0 = 5 ∧ call m_X4_takeFirstWord [pA a0, pI 1] h (fun _ h1 =>
 hk h1 a0 = 5 ∧ hk h1 (hr h1 a0 2) = 6 ∧ hk h1 a0 = 5 ∧ call m_X4_takeNewName [pA a0, pA (hr h1 (hr h1 a0 2) 0)] h1 (fun _ h2 =>
 K 39 [some (pA a0), some (pI (hi h (hr h (hr h a0 2) 0) 2)), some (pI 0)] [] h2 c s) X) X) ∧
(8 ≤ (hi h (hr h (hr h a0 2) 0) 2) →
 hk h a0 = 5 ∧ call m_X4_takeFirstWord [pA a0, pI 0] h (fun _ h3 =>
 hk h3 a0 = 5 ∧ hk h3 (hr h3 a0 2) = 6 ∧ hk h3 a0 = 5 ∧ call m_X4_takeNewName [pA a0, pA (hr h3 (hr h3 a0 2) 0)] h3 (fun _ h4 =>
 K 39 [some (pA a0), some (pI (hi h (hr h (hr h a0 2) 0) 2)), some (pI 0)] [] h4 c s) X) X)) : wpc k_X4_readKindLine [] call mc ms fr Q X [39] K 400 (pto 0 k_X4_readKindLine) [some (pA a0), z1, z2] [] h c s :=
  H

set_option maxRecDepth 100000 in
theorem v_X4_readKindLine_39 (a0 : Nat) (i1 : Int) (i2 : Int) (h : PH) (c s : Nat) (H : InR i2 ∧ InR 3 ∧ (i2 < 3 →
 hk h a0 = 5 ∧ (hk h 4 = 20 ∨ hk h 4 = 26) ∧ (0 ≤ i2 ∧ i2 < (hl h 4 : Int)) ∧ (hk h 5 = 20 ∨ hk h 5 = 26) ∧ (0 ≤ i2 ∧ i2 < (hl h 5 : Int)) ∧ hk h a0 = 5 ∧ call m_X4_takeNumber [pA a0, pI (hi h 4 (Int.toNat i2)), pI (hi h 5 (Int.toNat i2))] h (fun x1 h1 =>
 hk h1 (hr h a0 3) = 1 ∧ call m_X0_putKindNumber [pA (hr h a0 3), pI i1, pI i2, pI x1] h1 (fun _ h2 =>
 K 39 [some (pA a0), some (pI i1), some (pI (i2 + 1))] [] h2 c s) X) X) ∧
(3 ≤ i2 →
 Q 0 h)) : wpc k_X4_readKindLine [] call mc ms fr Q X [39] K 400 (pto 39 k_X4_readKindLine) [some (pA a0), some (pI i1), some (pI i2)] [] h c s :=
  H

end BYL
theorem l1_z {D : Nat → Int → Int} {f K z : Int} (h : (D 0 f ≠ K ∧ z = 1) ∨ (D 0 f = K ∧ z = 0)) : (if z = 0 then flD D 4 else D) = l1D D f K := by
  unfold l1D
  rcases h with ⟨h1, h2⟩ | ⟨h1, h2⟩
  · rw [if_neg (by omega), if_neg h1]
  · rw [if_pos h2, if_pos h1]
/-- the fields of a token are the same -/
theorem PCr.of {ES D D' : Nat → Int → Int} (P : PCr ES D) (h : ∀ e, 20 ≤ e → e ≤ 26 → D' 0 e = D 0 e) : PCr ES D' := by
  unfold PCr at P ⊢
  rw [h 20 (by omega) (by omega), h 23 (by omega) (by omega), h 22 (by omega) (by omega), h 21 (by omega) (by omega), h 24 (by omega) (by omega), h 25 (by omega) (by omega), h 26 (by omega) (by omega)]
  exact P
section LNS
variable {d p b : Nat} {h0 h : PH} {ES EP E D : Nat → Int → Int} {f1 f2 : Int → Int} {K1 K2 : Int} {s : Int → Int} {Q : Int → PH → Prop} {X : Nat → PH → Prop}
theorem W_readProgramLine (Z0 : LNR h0 h p b D s) (R : PR D) (I : RI D) (h25 : D 0 25 = 0) (H : ∀ h', LNR h0 h' p b (lpD D) s → Q 0 h') : RUN GQ (d + 5) m_X4_readProgramLine [pA p] h Q X := by
  obtain ⟨ES, EP, E, f1, f2, K1, K2, Z, G⟩ := Z0
  obtain ⟨⟨⟨g1, g2⟩, g3, g4⟩, pl, hr', n8⟩ := G h25
  have k32 := I.K.2.1
  rw [e_X4_readProgramLine]
  refine WP.of (RUN.mono GQ _) (cuts := []) (n := 400) (v_X4_readProgramLine_0 _ _ _ _ ?_)
  have nm := Z.N
  have f2' : hi h (b + 4) 2 = D 0 32 := (Z.L.f2 4 (by decide)).trans (nm.2.1.trans g4)
  rw [Z.r2, show hr h b 1 = b + 4 from Bx.r Z.L 0 1 4 (by decide), f2']
  have S1 : ST D (gD (l1D D 32 6)) := ((ST.refl R).l1 32 6).go
  -- behind the first word
  have go : ∀ h1 ES1, PWs h0 h1 p b ES1 EP E (gD (l1D D 32 6)) f1 f2 K1 K2 → ES1 0 8 = ES 0 8 → hk h1 p = 5 ∧ hk h1 (hr h1 p 2) = 6 ∧ hk h1 p = 5 ∧ RUN GQ (d + 4) m_X4_takeNewName [pA p, pA (hr h1 (hr h1 p 2) 1)] h1 (fun _ h2 => Q 0 h2) X := by
    intro h1 ES1 Z1 q1
    rw [Z1.r2, show hr h1 b 1 = b + 4 from Bx.r Z1.L 0 1 4 (by decide)]
    refine ⟨Z1.k5, Z1.L.k 0 (by decide) rfl, Z1.k5, ?_⟩
    have e32 : gD (l1D D 32 6) 0 32 = D 0 32 := S1.f (by decide)
    refine W_takeNewName_p (k := if D 0 32 < 6 then D 0 32 else 0) Z1 S1.P (fun z => PLW.go z) (fun z => ?_) (fun h2 ES2 EP2 g J Z2 q2 G2 => ?_)
    · have n6 := l1_ok z R (ST.refl S1.P)
      exact ⟨⟨by rw [S1.r (by decide)]; exact g3, by rw [e32]; exact g4⟩, by omega, by rw [if_pos (by omega)]; exact g4.symm⟩
    · rw [e32] at Z2 G2
      have Z2 : PWs h0 h2 p b ES2 EP2 E (lpW D) f1 g K1 J := Z2
      have G2 : lpW D 0 25 = 0 → g = lpW D 12 ∧ J = D 0 32 + 1 ∧ ∀ i, i ≠ 4 → i ≠ 5 → i ≠ 6 → EP2 i = EP i := G2
      have r0 : ∀ e, e ≠ 32 → lpD D 0 e = lpW D 0 e := fun e a => dst_ne a
      have rj : ∀ j, j ≠ 0 → lpD D j = lpW D j := fun j a => dst_row a
      have Z3 := Z2.dd (D' := lpD D) (rj 10 (by decide)) (Z2.P.of (fun e a c => r0 e (by omega)))
      refine H h2 ⟨ES2, EP2, E, f1, g, K1, J, Z3, fun z => ?_⟩
      rw [r0 25 (by decide)] at z
      obtain ⟨u1, u2, u3⟩ := G2 z
      have e31 : lpD D 0 31 = D 0 31 := (r0 31 (by decide)).trans (lp_f R (by decide))
      refine ⟨⟨⟨?_, ?_⟩, ?_, ?_⟩, ?_, ?_, ?_⟩
      · rw [rj 11 (by decide), lp_r R (by decide) (by decide)]; exact g1
      · rw [e31]; exact g2
      · rw [rj 12 (by decide)]; exact u1
      · show J = lpW D 0 32 + (if lpW D 0 25 = 0 then 1 else 0)
        rw [if_pos z, lp_f R (by decide)]; exact u2
      · unfold PLr
        rw [u3 7 (by decide) (by decide) (by decide), u3 8 (by decide) (by decide) (by decide), u3 9 (by decide) (by decide) (by decide), rj 15 (by decide), rj 16 (by decide), rj 17 (by decide), lp_r R (by decide) (by decide), lp_r R (by decide) (by decide), lp_r R (by decide) (by decide)]
        exact pl
      · have e30 : lpD D 0 30 = D 0 30 := (r0 30 (by decide)).trans (lp_f R (by decide))
        rw [e30, e31, bcS_same ((r0 34 (by decide)).trans (lp_f R (by decide))) e30 ((r0 27 (by decide)).trans (lp_f R (by decide))) ((r0 28 (by decide)).trans (lp_f R (by decide))) ((r0 29 (by decide)).trans (lp_f R (by decide))) (fun e _ _ => by rw [rj 18 (by decide), lp_r R (by decide) (by decide)]) ((rj 13 (by decide)).trans (lp_r R (by decide) (by decide))) ((rj 14 (by decide)).trans (lp_r R (by decide) (by decide))) I.h34.1]
        exact hr'
      · rw [q2, q1, n8, r0 34 (by decide), lp_f R (by decide)]
  refine ⟨Z.k5, Z.L.k 0 (by decide) rfl, Z.L.k 4 (by decide) rfl, ir (by omega) (by omega), ir (by omega) (by omega), fun c => ⟨Z.k5, ?_⟩, fun c => ⟨Z.k5, ?_⟩⟩
  · refine W_takeFirstWord Z R (Or.inr rfl) (fun h1 ES1 Z1 q1 => ?_)
    rw [l1_z (f := 32) (K := 6) (Or.inl ⟨by omega, rfl⟩)] at Z1
    exact go h1 ES1 Z1 q1
  · refine W_takeFirstWord Z R (Or.inl rfl) (fun h1 ES1 Z1 q1 => ?_)
    rw [l1_z (f := 32) (K := 6) (Or.inr ⟨by omega, rfl⟩)] at Z1
    exact go h1 ES1 Z1 q1
theorem S_X0_putKindNumber_8 {b' : Nat} {w v : Int} (M : Hx b' h h E) (hw : 0 ≤ w ∧ w < 3) (H : Q 0 h) : RUN GQ (d + 1) m_X0_putKindNumber [pA b', pI 8, pI w, pI v] h Q X := by
  rw [e_X0_putKindNumber]
  refine WP.of (RUN.mono GQ _) (cuts := []) (n := 400) (v_X0_putKindNumber_0 _ _ _ _ _ _ _ _ ?_)
  have e1 : hr h b' 1 = b' + 2 := Bx.r M 0 1 2 (by decide)
  have k2 : hk h (b' + 2) = 20 := M.k 2 (by decide) rfl
  have l2 : hl h (b' + 2) = 24 := (M.1.2.1 2 (by decide)).2
  rw [e1, l2]
  exact ⟨ir (by omega) (by omega), fun c => absurd c (by omega), fun _ => ⟨M.k 0 (by decide) rfl, by omega, ir (by omega) (by omega), ir (by omega) (by omega), fun c => absurd c (by omega), fun _ => H⟩⟩
theorem kind_39 {i1 w : Int} (Z : PWs h0 h p b ES EP E D f1 f2 K1 K2) (R : PR D) (hw : 0 ≤ w ∧ w < 3) (hk' : 0 ≤ i1 ∧ i1 ≤ 8) (H : ∀ v h' ES' E', PWs h0 h' p b ES' EP E' (gD (tkE D (klo w) (khi w))) f1 f2 K1 K2 → ES' 0 8 = ES 0 8 → (tkE D (klo w) (khi w) 0 25 = 0 → v = tvV D (klo w) (khi w)) → (i1 < 8 → E' = dst E 2 (i1 * 3 + w) v) → WP k_X4_readKindLine [] (RUN GQ (d + 4)) 0 0 (d + 5) Q X 39 [some (pA p), some (pI i1), some (pI (w + 1))] [] h' 0 0) :
    WP k_X4_readKindLine [] (RUN GQ (d + 4)) 0 0 (d + 5) Q X 39 [some (pA p), some (pI i1), some (pI w)] [] h 0 0 := by
  refine WP.of (RUN.mono GQ _) (cuts := [39]) (n := 400) (v_X4_readKindLine_39 _ _ _ _ _ _ ?_)
  have g4 := Z.G.g4
  have g5 := Z.G.g5
  have kr := kl_to w
  have rg := kl_rng w
  refine ⟨ir (by omega) (by omega), ir (by omega) (by omega), fun _ => ⟨Z.k5, Or.inr g4.1, ⟨hw.1, by rw [g4.2.1]; omega⟩, Or.inr g5.1, ⟨hw.1, by rw [g5.2.1]; omega⟩, Z.k5, ?_⟩, fun c => absurd c (by omega)⟩
  rw [g4.2.2 w hw.1 (by omega), g5.2.2 w hw.1 (by omega), Z.r3]
  refine W_takeNumber Z R (ir (by omega) (by omega)) (ir (by omega) (by omega)) (fun v h1 ES1 Z1 q1 t1 => ⟨Z1.M.k 0 (by decide) rfl, ?_⟩)
  by_cases c : i1 = 8
  · rw [c]
    refine S_X0_putKindNumber_8 Z1.M hw ?_
    have H' := H v h1 ES1 E Z1 q1 t1 (fun z => absurd z (by omega))
    rw [c] at H'
    exact H'
  · refine S_X0_putKindNumber Z1.M (by omega) hw (fun x h2 ex M2 => ?_)
    exact H v h2 ES1 _ (Z1.m M2 Z1.e6 Z1.e9) q1 t1 (fun _ => rfl)
end LNS
