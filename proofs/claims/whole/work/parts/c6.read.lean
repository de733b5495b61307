/-! the class reads a text -/
theorem rdm_row {j : Nat} (h : j ≠ 14) : ∀ (m : Nat) (k : Int) (D : Nat → Int → Int), rdm m k D j = D j
  | 0, _, _ => rfl
  | m + 1, k, D => (rdm_row h m (k + 1) _).trans (dst_row h)
theorem rdz_row {j : Nat} (h : j ≠ 15) (h' : j ≠ 16) : ∀ (m : Nat) (k : Int) (D : Nat → Int → Int), rdz m k D j = D j
  | 0, _, _ => rfl
  | m + 1, k, D => (rdz_row h h' m (k + 1) _).trans ((dst_row h').trans (dst_row h))
theorem rz_all {D : Nat → Int → Int} {n : Int} (hn : 0 ≤ n ∧ n ≤ 700) (hB : BY D) (h1 : NB (D 11)) (h2 : NB (D 12)) (hk' : RIk D) : RZ (rdm 6 0 (rdz 48 0 (rd0 D n))) 48 6 := by
  have za : ∀ (m : Nat) (k : Int) (D : Nat → Int → Int), RZ D k 0 → RZ (rdz m k D) (k + m) 0 := by
    intro m
    induction m with
    | zero => intro k D Z; rw [show k + ((0 : Nat) : Int) = k by omega]; exact Z
    | succ m ih =>
      intro k D Z
      have := ih (k + 1) _ Z.na
      rw [show k + 1 + (m : Int) = k + ((m + 1 : Nat) : Int) by omega] at this
      exact this
  have zc : ∀ (m : Nat) (k : Int) (D : Nat → Int → Int), RZ D 48 k → RZ (rdm m k D) 48 (k + m) := by
    intro m
    induction m with
    | zero => intro k D Z; rw [show k + ((0 : Nat) : Int) = k by omega]; exact Z
    | succ m ih =>
      intro k D Z
      have := ih (k + 1) _ Z.nc
      rw [show k + 1 + (m : Int) = k + ((m + 1 : Nat) : Int) by omega] at this
      exact this
  exact zc 6 0 _ (za 48 0 _ (RZ.start hn hB h1 h2 hk'))
section RDT
variable {d p b : Nat} {h : PH} {ES EP E D : Nat → Int → Int} {s : Int → Int} {n : Int} {Q : Int → PH → Prop} {X : Nat → PH → Prop}
theorem head_all {C : Nat → Int → Int} (PC : PR C) (IC : RI C) : PR (rd4 (rd3 (rd2 (rd1 C)))) ∧ RI (rd4 (rd3 (rd2 (rd1 C)))) ∧ (rd4 (rd3 (rd2 (rd1 C))) 0 25 = 0 → RS (rd4 (rd3 (rd2 (rd1 C))))) := by
  have P1 : PR (rd1 C) := PR_rd C PC (by decide)
  have I1 : RI (rd1 C) := RI_rd C PC IC (by decide)
  have P2 : PR (rd2 (rd1 C)) := PR_rd _ P1 (by decide)
  have I2 : RI (rd2 (rd1 C)) := RI_rd _ P1 I1 (by decide)
  have P3 : PR (rd3 (rd2 (rd1 C))) := PR_rd _ P2 (by decide)
  have I3 : RI (rd3 (rd2 (rd1 C))) := RI_rd _ P2 I2 (by decide)
  refine ⟨PR_rd _ P3 (by decide), RI_rd _ P3 I3 (by decide), fun h => ?_⟩
  have a4 := rd_step P3 (e := 30) (by decide) h
  have a3 := rd_step P2 (e := 29) (by decide) a4.2
  have a2 := rd_step P1 (e := 28) (by decide) a3.2
  have a1 := rd_step PC (e := 27) (by decide) a2.2
  have e30 : rd4 (rd3 (rd2 (rd1 C))) 0 30 = tvV (rd3 (rd2 (rd1 C))) 1 12 := dst_eq _ _ _ _
  have e29 : rd4 (rd3 (rd2 (rd1 C))) 0 29 = tvV (rd2 (rd1 C)) 1 50 := (rd_keep P3 (by decide) (by decide)).trans (dst_eq _ _ _ _)
  have e28 : rd4 (rd3 (rd2 (rd1 C))) 0 28 = tvV (rd1 C) 0 50 := (rd_keep P3 (by decide) (by decide)).trans ((rd_keep P2 (by decide) (by decide)).trans (dst_eq _ _ _ _))
  have e27 : rd4 (rd3 (rd2 (rd1 C))) 0 27 = tvV C 1 4 := (rd_keep P3 (by decide) (by decide)).trans ((rd_keep P2 (by decide) (by decide)).trans ((rd_keep P1 (by decide) (by decide)).trans (dst_eq _ _ _ _)))
  unfold RS
  rw [e30, e29, e28, e27]
  exact ⟨a1.1, a2.1, a3.1, a4.1⟩
theorem S_X4_readText {A0 : Nat → Int → Int} (RZA : RZ A0 48 6) (A10 : A0 10 = D 10) (A20 : A0 0 20 = n) (hp : 66 ≤ p) (hb : 66 ≤ b) (hd : p < b ∨ b + 24 ≤ p) (S : Sx p h h ES) (L : Px b h h EP) (M : Hx (b + 10) h h E) (e6 : E 6 0 = 13) (e9 : E 9 0 = 4) (F : BFR h D) (r0 : hr h p 0 = 65) (r2 : hr h p 2 = b) (r3 : hr h p 3 = b + 10) (W : WRD h) (G : SG h)
    (s1 : ES 0 1 = n) (s6 : ES 0 6 = 0) (s8 : ES 0 8 = 0) (s9 : ES 0 9 = 0) (s10 : ES 0 10 = -1) (hn' : 0 ≤ n ∧ n ≤ 700) (sw : s (-1) = -1) (i2 : InR (s (-2)))
    (H : ∀ h', LNR h h' p b (rdF A0) s → Q 0 h') : RUN GQ (d + 11) m_X4_readText [pA p] h Q X := by
  have i1 : InR (s (-1)) := by rw [sw]; exact ir (by omega) (by omega)
  have RA : PR (tokD A0) := RZA.P
  have IA : RI (tokD A0) := RZA.I
  have H : ∀ h', LNR h h' p b (rdZ (rdl 702 (rd4 (rd3 (rd2 (rd1 (rdC (tokD A0)))))))) s → Q 0 h' := H
  obtain ⟨A, hA⟩ : ∃ A, A = tokD A0 := ⟨_, rfl⟩
  have ar : ∀ j, j ≠ 0 → A j = A0 j := fun j a => by rw [hA]; exact tok_row _ a
  have af : ∀ e, e < 21 ∨ 26 < e → A 0 e = A0 0 e := fun e a => by rw [hA]; exact tok_0 _ a
  have a25 : A 0 25 = A0 0 25 := by rw [hA]; exact tok_25 _
  rw [← hA] at RA IA H
  have SC' := rdC_all RA
  obtain ⟨C, hC⟩ : ∃ C, C = rdC A := ⟨_, rfl⟩
  rw [← hC] at SC' H
  obtain ⟨RH, IH, stH⟩ := head_all SC'.P (IA.st SC')
  -- the head's numbers
  have PC := SC'.P
  have P1 : PR (rd1 C) := PR_rd _ PC (by decide)
  have P2 : PR (rd2 (rd1 C)) := PR_rd _ P1 (by decide)
  have P3 : PR (rd3 (rd2 (rd1 C))) := PR_rd _ P2 (by decide)
  have k1 := ((ST.refl PC).tE 1 4).go
  have k2 := ((ST.refl P1).tE 0 50).go
  have k3 := ((ST.refl P2).tE 1 50).go
  have k4 := ((ST.refl P3).tE 1 12).go
  -- behind the first word: the settings, then the lines
  have t38 : ∀ (h3 : PH) (ES3 EP3 : Nat → Int → Int), PWs h h3 p b ES3 EP3 (emH E) C (A 11) (A 12) 0 0 → ES3 0 8 = 0 → (∀ e, 0 ≤ e → e < 48 → EP3 7 e = 0 ∧ EP3 8 e = 0) → WP k_X4_readText [] (RUN GQ (d + 10)) 0 0 (d + 11) Q X 38 [some (pA p), some (pI 0)] [] h3 0 0 := by
    intro h3 ES3 EP3 Z3 q3 z78
    refine set_38 (w := 0) Z3 PC (by decide) (fun v0 h4 ES4 Z4 q4 t4 => ?_)
    have Z4' : PWs h h4 p b ES4 EP3 (dst (emH E) 1 0 v0) (rd1 C) (A 11) (A 12) 0 0 := Z4.dd (dst_row (by decide)) (Z4.P.of (fun e _ _ => dst_ne (by omega)))
    refine set_38 (w := 1) Z4' P1 (by decide) (fun v1 h5 ES5 Z5 q5 t5 => ?_)
    have Z5' : PWs h h5 p b ES5 EP3 (dst (dst (emH E) 1 0 v0) 1 1 v1) (rd2 (rd1 C)) (A 11) (A 12) 0 0 := Z5.dd (dst_row (by decide)) (Z5.P.of (fun e _ _ => dst_ne (by omega)))
    refine set_38 (w := 2) Z5' P2 (by decide) (fun v2 h6 ES6 Z6 q6 t6 => ?_)
    have Z6' : PWs h h6 p b ES6 EP3 (dst (dst (dst (emH E) 1 0 v0) 1 1 v1) 1 2 v2) (rd3 (rd2 (rd1 C))) (A 11) (A 12) 0 0 := Z6.dd (dst_row (by decide)) (Z6.P.of (fun e _ _ => dst_ne (by omega)))
    refine set_38 (w := 3) Z6' P3 (by decide) (fun v3 h7 ES7 Z7 q7 t7 => ?_)
    have Z7' : PWs h h7 p b ES7 EP3 (dst (dst (dst (dst (emH E) 1 0 v0) 1 1 v1) 1 2 v2) 1 3 v3) (rd4 (rd3 (rd2 (rd1 C)))) (A 11) (A 12) 0 0 := Z7.dd (dst_row (by decide)) (Z7.P.of (fun e _ _ => dst_ne (by omega)))
    refine WP.of (RUN.mono GQ _) (cuts := [38, 73, 191]) (n := 400) (v_X4_readText_38 _ _ _ _ _ ?_)
    refine ⟨ir (by omega) (by omega), ir (by omega) (by omega), fun c => absurd c (by omega), fun _ => ?_⟩
    -- what the head keeps
    have kf : ∀ e, 30 < e → rd4 (rd3 (rd2 (rd1 C))) 0 e = A0 0 e := fun e a => by
      have x4 : rd4 (rd3 (rd2 (rd1 C))) 0 e = rd3 (rd2 (rd1 C)) 0 e := rd_keep P3 (by omega) (by omega)
      have x3 : rd3 (rd2 (rd1 C)) 0 e = rd2 (rd1 C) 0 e := rd_keep P2 (by omega) (by omega)
      have x2 : rd2 (rd1 C) 0 e = rd1 C 0 e := rd_keep P1 (by omega) (by omega)
      have x1 : rd1 C 0 e = C 0 e := rd_keep PC (by omega) (by omega)
      rw [x4, x3, x2, x1, SC'.f (by omega)]
      exact af _ (by omega)
    have kr : ∀ j, j ≠ 0 → rd4 (rd3 (rd2 (rd1 C))) j = A j := fun j a => by
      have x4 : rd4 (rd3 (rd2 (rd1 C))) j = rd3 (rd2 (rd1 C)) j := (dst_row a).trans (k4.r a)
      have x3 : rd3 (rd2 (rd1 C)) j = rd2 (rd1 C) j := (dst_row a).trans (k3.r a)
      have x2 : rd2 (rd1 C) j = rd1 C j := (dst_row a).trans (k2.r a)
      have x1 : rd1 C j = C j := (dst_row a).trans (k1.r a)
      rw [x4, x3, x2, x1, SC'.r a]
    have kj : ∀ j, j ≠ 0 → rd4 (rd3 (rd2 (rd1 C))) j = A0 j := fun j a => (kr j a).trans (ar j a)
    obtain ⟨_, _, _, _, ⟨z31, z32, z33, z34⟩, _, _, _, _, z15, z14⟩ := RZA
    refine L_lines i1 i2 702 0 (rd4 (rd3 (rd2 (rd1 C)))) h7 ⟨ES7, EP3, _, _, _, 0, 0, Z7', fun c => ?_⟩ RH IH stH (by decide) (by decide) (fun c c3 => ?_) H
    · have a4 := rd_step P3 (e := 30) (by decide) c
      have a3 := rd_step P2 (e := 29) (by decide) a4.2
      have a2 := rd_step P1 (e := 28) (by decide) a3.2
      have a1 := rd_step PC (e := 27) (by decide) a2.2
      have y4 : tkE (rd3 (rd2 (rd1 C))) 1 12 0 25 = 0 := (go_25 _).symm.trans ((dst_ne (by decide)).symm.trans c)
      have y3 : tkE (rd2 (rd1 C)) 1 50 0 25 = 0 := (go_25 _).symm.trans ((dst_ne (by decide)).symm.trans a4.2)
      have y2 : tkE (rd1 C) 0 50 0 25 = 0 := (go_25 _).symm.trans ((dst_ne (by decide)).symm.trans a3.2)
      have y1 : tkE C 1 4 0 25 = 0 := (go_25 _).symm.trans ((dst_ne (by decide)).symm.trans a2.2)
      have e30 : rd4 (rd3 (rd2 (rd1 C))) 0 30 = tvV (rd3 (rd2 (rd1 C))) 1 12 := dst_eq _ _ _ _
      have e29 : rd4 (rd3 (rd2 (rd1 C))) 0 29 = tvV (rd2 (rd1 C)) 1 50 := (rd_keep P3 (by decide) (by decide)).trans (dst_eq _ _ _ _)
      have e28 : rd4 (rd3 (rd2 (rd1 C))) 0 28 = tvV (rd1 C) 0 50 := (rd_keep P3 (by decide) (by decide)).trans ((rd_keep P2 (by decide) (by decide)).trans (dst_eq _ _ _ _))
      have e27 : rd4 (rd3 (rd2 (rd1 C))) 0 27 = tvV C 1 4 := (rd_keep P3 (by decide) (by decide)).trans ((rd_keep P2 (by decide) (by decide)).trans ((rd_keep P1 (by decide) (by decide)).trans (dst_eq _ _ _ _)))
      refine ⟨⟨⟨(kr 11 (by decide)).symm, ((kf 31 (by decide)).trans z31).symm⟩, (kr 12 (by decide)).symm, ((kf 32 (by decide)).trans z32).symm⟩, ⟨fun e x y => ?_, fun g i w x y x1 x2 _ _ => ?_⟩, ?_, ?_⟩
      · rw [kj 15 (by decide), kj 16 (by decide), (z15 e x y).1, (z15 e x y).2]
        exact z78 e x y
      · rw [kj 16 (by decide), (z15 g x y).2] at x2
        omega
      · rw [(kf 31 (by decide)).trans z31]
        exact head_HR e6 e9 ((kf 34 (by decide)).trans z34) ((t4 y1).trans e27.symm) ((t5 y2).trans e28.symm) ((t6 y3).trans e29.symm) ((t7 y4).trans e30.symm) (fun p' x y => by rw [kj 14 (by decide)]; exact z14 p' x y) sw
      · rw [q7, q6, q5, q4, q3, (kf 34 (by decide)).trans z34]
    · have a4 := rd_step P3 (e := 30) (by decide) c
      have a3 := rd_step P2 (e := 29) (by decide) a4.2
      have a2 := rd_step P1 (e := 28) (by decide) a3.2
      have a1 := rd_step PC (e := 27) (by decide) a2.2
      have m1 : C 0 21 ≤ rd1 C 0 21 := by
        have := k1.n
        have e : rd1 C 0 21 = gD (tkE C 1 4) 0 21 := dst_ne (by decide)
        rw [e]; exact this
      have m2 : rd1 C 0 21 ≤ rd2 (rd1 C) 0 21 := by
        have := k2.n
        have e : rd2 (rd1 C) 0 21 = gD (tkE (rd1 C) 0 50) 0 21 := dst_ne (by decide)
        rw [e]; exact this
      have m3 : rd2 (rd1 C) 0 21 ≤ rd3 (rd2 (rd1 C)) 0 21 := by
        have := k3.n
        have e : rd3 (rd2 (rd1 C)) 0 21 = gD (tkE (rd2 (rd1 C)) 1 50) 0 21 := dst_ne (by decide)
        rw [e]; exact this
      have m4 : rd3 (rd2 (rd1 C)) 0 21 ≤ rd4 (rd3 (rd2 (rd1 C))) 0 21 := by
        have := k4.n
        have e : rd4 (rd3 (rd2 (rd1 C))) 0 21 = gD (tkE (rd3 (rd2 (rd1 C))) 1 12) 0 21 := dst_ne (by decide)
        rw [e]; exact this
      have m0 := SC'.n
      have w1 : wdv (A) (wdt 34) = 1 := by
        have q := a1.2
        rw [hC] at q
        unfold rdC at q
        rw [go_25] at q
        by_cases y : wdv (A) (wdt 34) = 1
        · exact y
        · rw [if_neg y] at q
          exact absurd q (fl_25 _ (by decide))
      have l1 := RA.2.2.2.2.1 (wd_1 w1)
      have l0 := RA.2.1
      omega
  rw [e_X4_readText]
  refine WP.of (RUN.mono GQ _) (cuts := [38, 73, 191]) (n := 400) (v_X4_readText_0 _ _ _ _ _ ?_)
  rw [r2]
  refine ⟨S.k 0 (by decide) rfl, L.k 0 (by decide) rfl, ?_⟩
  refine S_X5_empty L (fun x1 h1 e1 L1 => ?_)
  have S1 : Sx p h1 h1 ES := Bx.sa S L1.2.1 (by omega)
  have M1 : Hx (b + 10) h1 h1 E := Bx.sa M L1.2.1 (by omega)
  rw [(L1.2.1.er p 3).trans r3]
  refine ⟨S1.k 0 (by decide) rfl, M1.k 0 (by decide) rfl, ?_⟩
  refine S_X0_empty M1 (fun x2 h2 e2 M2 => ?_)
  have S2 : Sx p h2 h2 ES := Bx.sa S1 M2.2.1 (by omega)
  have F2 : BFR h2 (A0) := ((F.sa L1.2.1 hb).sa M2.2.1 (by omega)).eqD A10
  have sc : ∀ r, ¬ (b ≤ r ∧ r < b + 24) → Jvm.Pilot.CFadingSignalsLaw_law_r4563_1f4246.SC h h2 r := fun r a => (L1.2.1.sc (by omega)).trans (M2.2.1.sc (by omega))
  have R0 : hr h2 p 0 = 65 := (M2.2.1.er p 0).trans ((L1.2.1.er p 0).trans r0)
  obtain ⟨y20, y21, y25, y26, y3, yB, _, _, _, _, _⟩ := RZA
  refine ⟨S2.k 0 (by decide) rfl, ?_⟩
  refine S_X4_advance_1 R0 F2 hp yB (by rw [A20]; exact hn') S2 (s1.trans A20.symm) (s6.trans y21.symm) (s9.trans y25.symm) (s10.trans y26.symm) (by rw [y21]; omega) y25 (fun h3 ES3 S3 P3' q3 => ?_)
  rw [← hA] at P3'
  have sc3 : ∀ r, r ≠ p → ¬ (b ≤ r ∧ r < b + 24) → Jvm.Pilot.CFadingSignalsLaw_law_r4563_1f4246.SC h h3 r := fun r a a' => (sc r a').trans (S3.2.1.sc (by omega))
  have L3 : Px b h3 h3 (zrw 8 48 0 (zrw 7 48 0 (dst (dst EP 1 2 0) 4 2 0))) := Bx.sa (Bx.sa L1.now M2.2.1 (by omega)) S3.2.1 (by omega)
  have e1' : zrw 8 48 0 (zrw 7 48 0 (dst (dst EP 1 2 0) 4 2 0)) 1 2 = 0 := by rw [zrw_row (by decide), zrw_row (by decide), dst_row (by decide), dst_eq]
  have e4' : zrw 8 48 0 (zrw 7 48 0 (dst (dst EP 1 2 0) 4 2 0)) 4 2 = 0 := by rw [zrw_row (by decide), zrw_row (by decide), dst_eq]
  have Z3 : PWs h h3 p b ES3 (zrw 8 48 0 (zrw 7 48 0 (dst (dst EP 1 2 0) 4 2 0))) (emH E) (A) (A 11) (A 12) 0 0 := by
    refine ⟨⟨hp, hb, hd⟩, S3.now, L3, ⟨Bx.sa M2.now S3.2.1 (by omega), by rw [emH_z.2.1]; exact e6, by rw [emH_z.2.2]; exact e9⟩, (F2.sa S3.2.1 hp).eqD (ar 10 (by decide)), ⟨(S3.2.1.er p 0).trans R0, (S3.2.1.er p 2).trans ((M2.2.1.er p 2).trans ((L1.2.1.er p 2).trans r2)), (S3.2.1.er p 3).trans ((M2.2.1.er p 3).trans ((L1.2.1.er p 3).trans r3))⟩, P3', ⟨⟨e1', by decide, fun k a a' => absurd a' (by omega)⟩, e4', by decide, fun k a a' => absurd a' (by omega)⟩, ⟨W.sc (fun r a _ => sc3 r (by omega) (by omega)), G.sc (fun r a _ => sc3 r (by omega) (by omega))⟩, ?_, sc3⟩
    exact S3.2.1.1.trans (M2.2.1.1.trans L1.2.1.1)
  have z78 : ∀ e, 0 ≤ e → e < 48 → zrw 8 48 0 (zrw 7 48 0 (dst (dst EP 1 2 0) 4 2 0)) 7 e = 0 ∧ zrw 8 48 0 (zrw 7 48 0 (dst (dst EP 1 2 0) 4 2 0)) 8 e = 0 := fun e a a' => ⟨by rw [zrw_row (by decide), zrw_at (by omega)], zrw_at (by omega)⟩
  refine ⟨Z3.k5, W_word 15 (by decide) Z3 RA (a25.trans y25) ?_⟩
  have w1 := wdv_01 (A) (wdt 15)
  have eC : C = gD (if wdv (A) (wdt 15) = 1 then A else flD (A) 1) := hC
  refine ⟨ir (by omega) (by omega), fun c => ⟨Z3.k5, ?_⟩, fun c => ⟨Z3.k5, ?_⟩⟩
  · rw [if_neg (by omega)] at eC
    refine W_fail Z3 RA (fun h4 ES4 Z4 q4 => ⟨Z4.k5, ?_⟩)
    refine W_advance Z4 (RA.fl (by decide)) (fun h5 ES5 Z5 q5 => ?_)
    rw [← eC] at Z5
    exact t38 h5 ES5 _ Z5 (q5.trans (q4.trans (q3.trans s8))) z78
  · rw [if_pos (by omega)] at eC
    refine W_advance Z3 RA (fun h5 ES5 Z5 q5 => ?_)
    rw [← eC] at Z5
    exact t38 h5 ES5 _ Z5 (q5.trans (q3.trans s8)) z78
end RDT
