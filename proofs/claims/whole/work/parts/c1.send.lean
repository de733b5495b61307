/-! the class reads send lines -/
theorem bcS_send {D D' : Nat → Int → Int} {s : Int → Int} (e34 : D' 0 34 = D 0 34 + 1) (h34 : 0 ≤ D 0 34) (e30 : D' 0 30 = D 0 30) (e27 : D' 0 27 = D 0 27) (e28 : D' 0 28 = D 0 28) (e29 : D' 0 29 = D 0 29) (e13 : D' 13 = D 13) (e14 : D' 14 = D 14) (e18 : ∀ e, 0 ≤ e → e < 3 * D 0 34 → D' 18 e = D 18 e) : bcS D' s = e_snd (bcD D) (bcS D s) (D' 18 (3 * D 0 34)) (D' 18 (3 * D 0 34 + 1)) (D' 18 (3 * D 0 34 + 2)) (-1) := by
  have b : b4 (bcD D') s = b4 (bcD D) s := by
    funext e
    rw [b4_bc, b4_bc, e13, e14, e27, e28, e29]
  have q2 : bcD D' 0 2 = bcD D 0 2 := by rw [(bc_rows D').1.1, (bc_rows D).1.1, e30]
  have r18 : bcD D' 18 = D' 18 := (bc_rows D').2.2.2.2.2.2 18 (by decide)
  rw [bcS_as D', bcS_as D, e34, show (D 0 34 + 1).toNat = (D 0 34).toNat + 1 by omega, bse_last, b, snd_D2 q2, r18, show (0 : Int) + ((D 0 34).toNat : Int) = D 0 34 by omega]
  rw [bse_D q2 _ 0 _ (fun e a c => by rw [r18, (bc_rows D).2.2.2.2.2.2 18 (by decide)]; exact e18 e (by omega) (by omega))]
section SDL
variable {d p b : Nat} {h0 h : PH} {D : Nat → Int → Int} {s : Int → Int} {Q : Int → PH → Prop} {X : Nat → PH → Prop}
theorem W_readSendLine (Z0 : LNR h0 h p b D s) (R : PR D) (I : RI D) (st : RS D) (i1 : InR (s (-1))) (i2 : InR (s (-2))) (h25 : D 0 25 = 0) (H : ∀ h', LNR h0 h' p b (lsD D) s → Q 0 h') : RUN GQ (d + 5) m_X4_readSendLine [pA p] h Q X := by
  obtain ⟨ES, EP, E, f1, f2, K1, K2, Z, G⟩ := Z0
  obtain ⟨⟨⟨g1, g2⟩, g3, g4⟩, pl, hr', n8⟩ := G h25
  have h34 := I.h34
  have SA : ST D (lsA D) := ((ST.refl R).l1 34 12).go
  have SB : ST D (lsB D) := (SA.nh _ _).go
  have SC : ST D (lsC D) := (SB.nh _ _).go
  have SE : ST D (lsE D) := ST_lsE R
  have e32 : lsA D 0 32 = D 0 32 := SA.f (by decide)
  have e31 : lsB D 0 31 = D 0 31 := SB.f (by decide)
  rw [e_X4_readSendLine]
  refine WP.of (RUN.mono GQ _) (cuts := []) (n := 400) (v_X4_readSendLine_0 _ _ _ _ _ _ _ ?_)
  have f8 : hi h p 8 = D 0 34 := (Z.S.f8 0 (by decide)).trans n8
  -- behind the first word
  have go : ∀ h1 ES1, PWs h0 h1 p b ES1 EP E (lsA D) f1 f2 K1 K2 → ES1 0 8 = ES 0 8 →
      hk h1 p = 5 ∧ hk h1 p = 5 ∧ ∀ h2, h2 = hsi h1 p 8 ((hi h1 p 8) + 1) → hk h2 p = 5 ∧ hk h2 (hr h2 p 2) = 6 ∧ hk h2 p = 5 ∧ RUN GQ (d + 4) m_X4_takeName [pA p, pA (hr h2 (hr h2 p 2) 1)] h2 (fun x3 h3 =>
        hk h3 p = 5 ∧ hk h3 (hr h3 p 2) = 6 ∧ hk h3 p = 5 ∧ RUN GQ (d + 4) m_X4_takeName [pA p, pA (hr h3 (hr h3 p 2) 0)] h3 (fun x4 h4 =>
          hk h4 p = 5 ∧ RUN GQ (d + 4) m_X4_takeNumber [pA p, pI 0, pI 999] h4 (fun x5 h5 =>
            hk h5 p = 5 ∧ InR (hi h5 p 9) ∧ ((hi h5 p 9) = 0 → hk h5 p = 5 ∧ hk h5 (hr h5 p 3) = 1 ∧ RUN GQ (d + 4) m_X0_sendSignal [pA (hr h5 p 3), pI x3, pI x4, pI ((-1)), pI x5] h5 (fun _ h6 => Q 0 h6) X) ∧ ((hi h5 p 9) ≠ 0 → Q 0 h5)) X) X) X := by
    intro h1 ES1 Z1 q1
    have f8' : hi h1 p 8 = D 0 34 := (Z1.S.f8 0 (by decide)).trans (q1.trans n8)
    rw [f8']
    refine ⟨Z1.k5, Bx.pf8 Z1.S 0 5 (by decide) rfl (fun h2 S2 => ?_)⟩
    have Z2 := Z1.s S2 (D' := lsA D) Z1.P rfl
    have q2 : dst ES1 0 8 (D 0 34 + 1) 0 8 = D 0 34 + 1 := dst_eq _ _ _ _
    generalize dst ES1 0 8 (D 0 34 + 1) = ES2 at Z2 q2
    rw [Z2.r2, show hr h2 b 1 = b + 4 from Bx.r Z2.L 0 1 4 (by decide)]
    refine ⟨Z2.k5, Z2.L.k 0 (by decide) rfl, Z2.k5, ?_⟩
    refine W_takeName_p Z2 SA.P (fun _ => ⟨by rw [SA.r (by decide)]; exact g3, by rw [e32]; exact g4⟩) (fun vp h3 ES3 Z3 q3 t3 b3 => ?_)
    rw [e32] at Z3 t3
    have Z3 : PWs h0 h3 p b ES3 EP E (lsB D) f1 f2 K1 K2 := Z3
    rw [Z3.r2, show hr h3 b 0 = b + 1 from Bx.r Z3.L 0 0 1 (by decide)]
    refine ⟨Z3.k5, Z3.L.k 0 (by decide) rfl, Z3.k5, ?_⟩
    refine W_takeName_k Z3 SB.P (fun _ => ⟨by rw [SB.r (by decide)]; exact g1, by rw [e31]; exact g2⟩) (fun vk h4 ES4 Z4 q4 t4 b4 => ?_)
    rw [e31] at Z4 t4
    have Z4 : PWs h0 h4 p b ES4 EP E (lsC D) f1 f2 K1 K2 := Z4
    refine ⟨Z4.k5, W_takeNumber Z4 SC.P (ir (by omega) (by omega)) (ir (by omega) (by omega)) (fun v h5 ES5 Z5 q5 t5 => ?_)⟩
    have Z5 : PWs h0 h5 p b ES5 EP E (lsE D) f1 f2 K1 K2 := Z5
    have e25 := SE.P.e25
    have f9 : hi h5 p 9 = lsE D 0 25 := (Z5.S.f9 0 (by decide)).trans Z5.P.2.2.2.2.2.1
    rw [f9, Z5.r3]
    refine ⟨Z5.k5, ir (by omega) (by omega), fun c => ⟨Z5.k5, Z5.M.k 0 (by decide) rfl, ?_⟩, fun c => ?_⟩
    · have tE : tkE (lsC D) 0 999 0 25 = 0 := (go_25 _).symm.trans c
      have cC : lsC D 0 25 = 0 := ((ST.refl SC.P).tE 0 999).e tE
      have tC : nhD 11 (D 0 31) (lsB D) 0 25 = 0 := (go_25 _).symm.trans cC
      have cB : lsB D 0 25 = 0 := ((ST.refl SB.P).nh 11 (D 0 31)).e tC
      have tB : nhD 12 (D 0 32) (lsA D) 0 25 = 0 := (go_25 _).symm.trans cB
      have xp : vp = lsp D := t3 tB
      have xk : vk = lsk D := t4 tC
      have xv : v = tvV (lsC D) 0 999 := t5 tE
      subst xp; subst xk; subst xv
      have ok := ls_ok R I.K c
      obtain ⟨V, hb⟩ := bcS_HI I st i1 i2
      have b1 := (bc_rows D).1
      refine S_X0_sendSignal (D := bcD D) (s := bcS D s) (N := 100) Z5.M (by rw [b1.1, b1.2.1]; exact hr') hb V (by omega) (by rw [b1.2.2.1]; exact ok.1) (by rw [b1.2.1]; exact ok.2.1) (by omega) (by omega) (fun x h6 E6 e6 M6 R6 => ?_)
      rw [b1.1, b1.2.1] at R6
      have ek : lsD D = dst (dst (dst (dst (lsE D) 18 (3 * D 0 34) (lsp D)) 18 (3 * D 0 34 + 1) (lsk D)) 18 (3 * D 0 34 + 2) (tvV (lsC D) 0 999)) 0 34 (D 0 34 + 1) := if_pos c
      have r0 : ∀ e, e ≠ 34 → lsD D 0 e = lsE D 0 e := fun e a => by rw [ek, dst_ne a, dst_row (by decide), dst_row (by decide), dst_row (by decide)]
      have rj : ∀ j, j ≠ 0 → j ≠ 18 → lsD D j = D j := fun j a a' => by rw [ek, dst_row a, dst_row a', dst_row a', dst_row a', SE.r a]
      have rf : ∀ e, e < 21 ∨ 26 < e → e ≠ 34 → lsD D 0 e = D 0 e := fun e a a' => (r0 e a').trans (SE.f a)
      have e34 : lsD D 0 34 = D 0 34 + 1 := by rw [ek]; exact dst_eq _ _ _ _
      have e18 : ∀ e, lsD D 18 e = if e = 3 * D 0 34 + 2 then tvV (lsC D) 0 999 else if e = 3 * D 0 34 + 1 then lsk D else if e = 3 * D 0 34 then lsp D else D 18 e := fun e => by
        rw [ek, dst_row (by decide)]
        by_cases y2 : e = 3 * D 0 34 + 2
        · rw [if_pos y2, y2, dst_eq]
        · rw [if_neg y2, dst_ne y2]
          by_cases y1 : e = 3 * D 0 34 + 1
          · rw [if_pos y1, y1, dst_eq]
          · rw [if_neg y1, dst_ne y1]
            by_cases y0 : e = 3 * D 0 34
            · rw [if_pos y0, y0, dst_eq]
            · rw [if_neg y0, dst_ne y0, SE.r (by decide)]
      have Z6 := (Z5.m M6 R6.r6 R6.r9).dd (D' := lsD D) ((rj 10 (by decide) (by decide)).trans (SE.r (by decide)).symm) (Z5.P.of (fun e _ _ => r0 e (by omega)))
      have hS := bcS_send (D := D) (D' := lsD D) (s := s) e34 h34.1 (rf 30 (by decide) (by decide)) (rf 27 (by decide) (by decide)) (rf 28 (by decide) (by decide)) (rf 29 (by decide) (by decide)) (rj 13 (by decide) (by decide)) (rj 14 (by decide) (by decide)) (fun e a a' => by rw [e18, if_neg (by omega), if_neg (by omega), if_neg (by omega)])
      rw [e18, if_neg (by omega), if_neg (by omega), if_pos rfl, e18, if_neg (by omega), if_pos rfl, e18, if_pos rfl] at hS
      refine H h6 ⟨ES5, EP, E6, f1, f2, K1, K2, Z6, fun _ => ⟨⟨⟨?_, ?_⟩, ?_, ?_⟩, ?_, ?_, ?_⟩⟩
      · rw [rj 11 (by decide) (by decide)]; exact g1
      · rw [rf 31 (by decide) (by decide)]; exact g2
      · rw [rj 12 (by decide) (by decide)]; exact g3
      · rw [rf 32 (by decide) (by decide)]; exact g4
      · unfold PLr
        rw [rj 15 (by decide) (by decide), rj 16 (by decide) (by decide), rj 17 (by decide) (by decide)]
        exact pl
      · rw [rf 30 (by decide) (by decide), rf 31 (by decide) (by decide), hS]
        exact R6
      · rw [q5, q4, q3, q2, e34]
    · have e : lsD D = lsE D := if_neg c
      exact H h5 ⟨ES5, EP, E, f1, f2, K1, K2, by rw [e]; exact Z5, fun z => absurd z (by rw [e]; exact c)⟩
  rw [f8]
  refine ⟨Z.k5, ir (by omega) (by omega), ir (by omega) (by omega), fun c => ⟨Z.k5, ?_⟩, fun c => ⟨Z.k5, ?_⟩⟩
  · refine W_takeFirstWord Z R (Or.inr rfl) (fun h1 ES1 Z1 q1 => ?_)
    rw [l1_z (f := 34) (K := 12) (Or.inl ⟨by omega, rfl⟩)] at Z1
    exact go h1 ES1 Z1 q1
  · refine W_takeFirstWord Z R (Or.inl rfl) (fun h1 ES1 Z1 q1 => ?_)
    rw [l1_z (f := 34) (K := 12) (Or.inr ⟨by omega, rfl⟩)] at Z1
    exact go h1 ES1 Z1 q1
end SDL
