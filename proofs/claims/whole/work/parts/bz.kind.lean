/-! the class reads kind lines -/
theorem lkD_ok {D : Nat → Int → Int} (h : lkC D 0 25 = 0) (n8 : D 0 31 < 8) : lkD D = dst (dst (dst (dst (lkC D) 13 (3 * D 0 31) (tvV (lkW D) 1 99)) 13 (3 * D 0 31 + 1) (tvV (lkA D) 0 20)) 13 (3 * D 0 31 + 2) (tvV (lkB D) 1 200)) 0 31 (D 0 31 + 1) := by
  unfold lkD
  rw [if_pos h, if_pos n8]
theorem HI_sz {K P c N : Int} {s : Int → Int} (I : HI K P c N s) : (∀ p, 0 ≤ p → p < 6 → s (115 + p) ≤ 13) ∧ ∀ p, 0 ≤ p → p < 6 → s (511 + p) ≤ 4 := ⟨fun p x y => by have := I.qn ⟨x, y⟩; have := I.hq.1; omega, fun p x y => (I.sn ⟨x, y⟩).2⟩
section KND
variable {d p b : Nat} {h0 h : PH} {ES EP E D : Nat → Int → Int} {f1 f2 : Int → Int} {K1 K2 : Int} {s : Int → Int} {Q : Int → PH → Prop} {X : Nat → PH → Prop}
/-- the kind's numbers: hall against the model's rows -/
theorem kind_HR {C v0 v1 v2 : Int} {s' : Int → Int} {K : Int} (R : HR E C K s) (S : SM K s s') (hK : 0 ≤ K) (hm : ∀ q, 0 ≤ q → q < 6 → s' (85 + q) = s (85 + q)) (u0 : s' (13 + 3 * K) = v0) (u1 : s' (13 + 3 * K + 1) = v1) (u2 : s' (13 + 3 * K + 2) = v2) (hsz : (∀ p, 0 ≤ p → p < 6 → s (115 + p) ≤ 13) ∧ ∀ p, 0 ≤ p → p < 6 → s (511 + p) ≤ 4) :
    HR (dst (dst (dst E 2 (K * 3 + 0) v0) 2 (K * 3 + 1) v1) 2 (K * 3 + 2) v2) C (K + 1) s' := by
  refine R.gen S (fun j a _ => by rw [dst_row a, dst_row a, dst_row a]) (fun e h1 h2 h3 => ?_) (fun e h1 h2 => ?_) hsz.1 hsz.2
  · by_cases c2 : e = K * 3 + 2
    · rw [c2, dst_eq, ← u2]
      exact congrArg s' (by omega)
    · rw [dst_ne c2]
      by_cases c1 : e = K * 3 + 1
      · rw [c1, dst_eq, ← u1]
        exact congrArg s' (by omega)
      · rw [dst_ne c1]
        by_cases c0 : e = K * 3 + 0
        · rw [c0, dst_eq, ← u0]
          exact congrArg s' (by omega)
        · rw [dst_ne c0, R.2.1.2.1 e h1 h2 (by omega)]
          exact (S (13 + e) (by unfold ZK; omega)).symm
  · rw [dst_row (by decide), dst_row (by decide), dst_row (by decide), R.2.1.2.2.2.1 e h1 h2]
    exact (hm e h1 h2).symm
theorem W_readKindLine (Z0 : LNR h0 h p b D s) (R : PR D) (I : RI D) (st : RS D) (i1 : InR (s (-1))) (i2 : InR (s (-2))) (h25 : D 0 25 = 0) (H : ∀ h', LNR h0 h' p b (lkD D) s → Q 0 h') : RUN GQ (d + 5) m_X4_readKindLine [pA p] h Q X := by
  obtain ⟨ES, EP, E, f1, f2, K1, K2, Z, G⟩ := Z0
  obtain ⟨⟨⟨g1, g2⟩, g3, g4⟩, pl, hr', n8⟩ := G h25
  have k31 := I.K.1
  rw [e_X4_readKindLine]
  refine WP.of (RUN.mono GQ _) (cuts := [39]) (n := 400) (v_X4_readKindLine_0 _ _ _ _ _ _ ?_)
  have nm := Z.N
  have f2' : hi h (b + 1) 2 = D 0 31 := (Z.L.f2 1 (by decide)).trans (nm.1.1.trans g2)
  rw [Z.r2, show hr h b 0 = b + 1 from Bx.r Z.L 0 0 1 (by decide), f2']
  have S1 : ST D (gD (l1D D 31 8)) := ((ST.refl R).l1 31 8).go
  have RW : PR (lkW D) := PR.nw S1.P 11 _ _ (by decide) (by decide)
  have RA : PR (lkA D) := (RW.tE 1 99).go
  have RB : PR (lkB D) := (RA.tE 0 20).go
  have RC : PR (lkC D) := (RB.tE 1 200).go
  have SW : ST (lkW D) (lkC D) := lk_W R
  -- behind the first word
  have go : ∀ h1 ES1, PWs h0 h1 p b ES1 EP E (gD (l1D D 31 8)) f1 f2 K1 K2 → ES1 0 8 = ES 0 8 → hk h1 p = 5 ∧ hk h1 (hr h1 p 2) = 6 ∧ hk h1 p = 5 ∧ RUN GQ (d + 4) m_X4_takeNewName [pA p, pA (hr h1 (hr h1 p 2) 0)] h1 (fun _ h2 => WP k_X4_readKindLine [] (RUN GQ (d + 4)) 0 0 (d + 5) Q X 39 [some (pA p), some (pI (D 0 31)), some (pI 0)] [] h2 0 0) X := by
    intro h1 ES1 Z1 q1
    rw [Z1.r2, show hr h1 b 0 = b + 1 from Bx.r Z1.L 0 0 1 (by decide)]
    refine ⟨Z1.k5, Z1.L.k 0 (by decide) rfl, Z1.k5, ?_⟩
    have e31 : gD (l1D D 31 8) 0 31 = D 0 31 := S1.f (by decide)
    refine W_takeNewName_k (k := if D 0 31 < 8 then D 0 31 else 0) Z1 S1.P (fun z => PLW.go z) (fun z => ?_) (fun h2 ES2 EP2 g J Z2 q2 G2 => ?_)
    · have n6 := l1_ok z R (ST.refl S1.P)
      exact ⟨⟨by rw [S1.r (by decide)]; exact g1, by rw [e31]; exact g2⟩, by omega, by rw [if_pos (by omega)]; exact g2.symm⟩
    · rw [e31] at Z2 G2
      have Z2 : PWs h0 h2 p b ES2 EP2 E (lkW D) g f2 J K2 := Z2
      have G2 : lkW D 0 25 = 0 → g = lkW D 11 ∧ J = D 0 31 + 1 ∧ ∀ i, i ≠ 1 → i ≠ 2 → i ≠ 3 → EP2 i = EP i := G2
      refine kind_39 (w := 0) Z2 RW (by decide) (by omega) (fun v0 h3 ES3 E3 Z3 q3 t3 c3 => ?_)
      refine kind_39 (w := 1) Z3 RA (by decide) (by omega) (fun v1 h4 ES4 E4 Z4 q4 t4 c4 => ?_)
      refine kind_39 (w := 2) Z4 RB (by decide) (by omega) (fun v2 h5 ES5 E5 Z5 q5 t5 c5 => ?_)
      have Z5 : PWs h0 h5 p b ES5 EP2 E5 (lkC D) g f2 J K2 := Z5
      refine WP.of (RUN.mono GQ _) (cuts := [39]) (n := 400) (v_X4_readKindLine_39 _ _ _ _ _ _ ?_)
      refine ⟨ir (by omega) (by omega), ir (by omega) (by omega), fun c => absurd c (by omega), fun _ => ?_⟩
      by_cases c : lkC D 0 25 = 0
      · have tC : tkE (lkB D) 1 200 0 25 = 0 := (go_25 _).symm.trans c
        have cB : lkB D 0 25 = 0 := ((ST.refl RB).tE 1 200).e tC
        have tB : tkE (lkA D) 0 20 0 25 = 0 := (go_25 _).symm.trans cB
        have cA : lkA D 0 25 = 0 := ((ST.refl RA).tE 0 20).e tB
        have tA : tkE (lkW D) 1 99 0 25 = 0 := (go_25 _).symm.trans cA
        have cW : lkW D 0 25 = 0 := ((ST.refl RW).tE 1 99).e tA
        have n31 := lk_ok R c
        have n31' : D 0 31 < 8 := by omega
        obtain ⟨u1, u2, u3⟩ := G2 cW
        have ek := lkD_ok c n31'
        have r0 : ∀ e, e ≠ 31 → lkD D 0 e = lkC D 0 e := fun e a => by rw [ek, dst_ne a, dst_row (by decide), dst_row (by decide), dst_row (by decide)]
        have rj : ∀ j, j ≠ 0 → j ≠ 13 → lkD D j = lkC D j := fun j a a' => by rw [ek, dst_row a, dst_row a', dst_row a', dst_row a']
        have rC : ∀ e, e < 21 ∨ 26 < e → lkC D 0 e = D 0 e := fun e a => (SW.f a).trans (lkW_f R a)
        have rD : ∀ j, j ≠ 0 → j ≠ 11 → lkC D j = D j := fun j a a' => (SW.r a).trans (lkW_r R a a')
        have e31' : lkD D 0 31 = D 0 31 + 1 := by rw [ek]; exact dst_eq _ _ _ _
        have e30 : lkD D 0 30 = D 0 30 := (r0 30 (by decide)).trans (rC 30 (by decide))
        have e27 : lkD D 0 27 = D 0 27 := (r0 27 (by decide)).trans (rC 27 (by decide))
        have e28 : lkD D 0 28 = D 0 28 := (r0 28 (by decide)).trans (rC 28 (by decide))
        have e29 : lkD D 0 29 = D 0 29 := (r0 29 (by decide)).trans (rC 29 (by decide))
        have e34 : lkD D 0 34 = D 0 34 := (r0 34 (by decide)).trans (rC 34 (by decide))
        have e14 : lkD D 14 = D 14 := (rj 14 (by decide) (by decide)).trans (rD 14 (by decide) (by decide))
        have e13 : ∀ e, lkD D 13 e = if e = 3 * D 0 31 + 2 then tvV (lkB D) 1 200 else if e = 3 * D 0 31 + 1 then tvV (lkA D) 0 20 else if e = 3 * D 0 31 then tvV (lkW D) 1 99 else D 13 e := fun e => by
          rw [ek, dst_row (by decide)]
          by_cases y2 : e = 3 * D 0 31 + 2
          · rw [if_pos y2, y2, dst_eq]
          · rw [if_neg y2, dst_ne y2]
            by_cases y1 : e = 3 * D 0 31 + 1
            · rw [if_pos y1, y1, dst_eq]
            · rw [if_neg y1, dst_ne y1]
              by_cases y0 : e = 3 * D 0 31
              · rw [if_pos y0, y0, dst_eq]
              · rw [if_neg y0, dst_ne y0, rD 13 (by decide) (by decide)]
        have st' : RS (lkD D) := by unfold RS; rw [e27, e28, e29, e30]; exact st
        have I' : RI (lkD D) := I.lk R
        have two := bc_two I I' st st' i1 i2 e34 e30 e27 e28 e29 ((rj 18 (by decide) (by decide)).trans (rD 18 (by decide) (by decide))) (fun e a a' => by rw [e13, if_neg (by omega), if_neg (by omega), if_neg (by omega)])
        have hb := (bcS_HI I st i1 i2).2
        have at' : ∀ e, 13 ≤ e → e < 37 → bcS (lkD D) s e = lkD D 13 (e - 13) := fun e a a' => by
          rw [(two.2 e (Or.inl ⟨a, a'⟩)).2, b4_bc, if_neg (by omega), if_pos ⟨a, a'⟩]
        have hm : ∀ q, 0 ≤ q → q < 6 → bcS (lkD D) s (85 + q) = bcS D s (85 + q) := fun q a a' => by
          rw [(two.2 (85 + q) (Or.inr ⟨by omega, by omega⟩)).1, (two.2 (85 + q) (Or.inr ⟨by omega, by omega⟩)).2, b4_bc, b4_bc, if_pos (by omega), if_pos (by omega), e14]
        have Z6 := Z5.dd (D' := lkD D) (rj 10 (by decide) (by decide)) (Z5.P.of (fun e a a' => r0 e (by omega)))
        have HE := kind_HR (v0 := tvV (lkW D) 1 99) (v1 := tvV (lkA D) 0 20) (v2 := tvV (lkB D) 1 200) hr' two.1 k31.1 hm (by rw [at' _ (by omega) (by omega), e13, if_neg (by omega), if_neg (by omega), if_pos (by omega)]) (by rw [at' _ (by omega) (by omega), e13, if_neg (by omega), if_pos (by omega)]) (by rw [at' _ (by omega) (by omega), e13, if_pos (by omega)]) (HI_sz hb)
        have x0 : v0 = tvV (lkW D) 1 99 := t3 tA
        have x1 : v1 = tvV (lkA D) 0 20 := t4 tB
        have x2 : v2 = tvV (lkB D) 1 200 := t5 tC
        rw [c5 (by omega), c4 (by omega), c3 (by omega), x0, x1, x2] at Z6
        refine H h5 ⟨ES5, EP2, _, g, f2, J, K2, Z6, fun _ => ⟨⟨⟨?_, ?_⟩, ?_, ?_⟩, ?_, ?_, ?_⟩⟩
        · rw [rj 11 (by decide) (by decide), SW.r (by decide)]; exact u1
        · rw [e31']; exact u2
        · rw [rj 12 (by decide) (by decide), rD 12 (by decide) (by decide)]; exact g3
        · rw [r0 32 (by decide), rC 32 (by decide)]; exact g4
        · unfold PLr
          rw [u3 7 (by decide) (by decide) (by decide), u3 8 (by decide) (by decide) (by decide), u3 9 (by decide) (by decide) (by decide), rj 15 (by decide) (by decide), rj 16 (by decide) (by decide), rj 17 (by decide) (by decide), rD 15 (by decide) (by decide), rD 16 (by decide) (by decide), rD 17 (by decide) (by decide)]
          exact pl
        · rw [e30, e31']
          exact HE
        · rw [q5, q4, q3, q2, q1, n8, e34]
      · have e : lkD D = lkC D := if_neg c
        refine H h5 ⟨ES5, EP2, E5, g, f2, J, K2, by rw [e]; exact Z5, fun z => absurd z (by rw [e]; exact c)⟩
  refine ⟨Z.k5, Z.L.k 0 (by decide) rfl, Z.L.k 1 (by decide) rfl, ir (by omega) (by omega), ir (by omega) (by omega), fun c => ⟨Z.k5, ?_⟩, fun c => ⟨Z.k5, ?_⟩⟩
  · refine W_takeFirstWord Z R (Or.inr rfl) (fun h1 ES1 Z1 q1 => ?_)
    rw [l1_z (f := 31) (K := 8) (Or.inl ⟨by omega, rfl⟩)] at Z1
    exact go h1 ES1 Z1 q1
  · refine W_takeFirstWord Z R (Or.inl rfl) (fun h1 ES1 Z1 q1 => ?_)
    rw [l1_z (f := 31) (K := 8) (Or.inr ⟨by omega, rfl⟩)] at Z1
    exact go h1 ES1 Z1 q1
end KND
