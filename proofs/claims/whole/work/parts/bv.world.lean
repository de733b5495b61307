/-! the class's reading: parser, plan and hall together -/
def NMs (EP : Nat → Int → Int) (f1 f2 : Int → Int) (K1 K2 : Int) : Prop := (EP 1 2 = K1 ∧ (0 ≤ K1 ∧ K1 ≤ 8) ∧ NR (EP 2) (EP 3) f1 K1) ∧ EP 4 2 = K2 ∧ (0 ≤ K2 ∧ K2 ≤ 8) ∧ NR (EP 5) (EP 6) f2 K2
def PWs (h0 h : PH) (p b : Nat) (ES EP E D : Nat → Int → Int) (f1 f2 : Int → Int) (K1 K2 : Int) : Prop :=
  (66 ≤ p ∧ 66 ≤ b ∧ (p < b ∨ b + 24 ≤ p)) ∧ Sx p h h ES ∧ Px b h h EP ∧ (Hx (b + 10) h h E ∧ E 6 0 = 13 ∧ E 9 0 = 4) ∧ BFR h D ∧ (hr h p 0 = 65 ∧ hr h p 2 = b ∧ hr h p 3 = b + 10) ∧ PCr ES D ∧ NMs EP f1 f2 K1 K2 ∧ (WRD h ∧ SG h) ∧ hn h = hn h0 ∧ ∀ r, r ≠ p → ¬ (b ≤ r ∧ r < b + 24) → SC h0 h r
theorem SA5.sc {h h' : PH} {a n : Nat} {f : Int → Int} (G : SA5 h a n f) (S : SC h h' a) : SA5 h' a n f := ⟨S.k.trans G.1, S.l.trans G.2.1, fun i x y => ((S.2 _).1).trans (G.2.2 i x y)⟩
theorem SG.sc {h h' : PH} (G : SG h) (S : ∀ r, r < 65 → r ≠ 64 → SC h h' r) : SG h' := ⟨G.g2.sc (S 2 (by decide) (by decide)), G.g3.sc (S 3 (by decide) (by decide)), G.g4.sc (S 4 (by decide) (by decide)), G.g5.sc (S 5 (by decide) (by decide)), G.g6.sc (S 6 (by decide) (by decide))⟩
theorem WRD.sc {h h' : PH} (W : WRD h) (S : ∀ r, r < 65 → r ≠ 64 → SC h h' r) : WRD h' := fun r a b => by
  obtain ⟨w1, w2, w3, w4⟩ := W r a b
  have s := S r (by omega) (by omega)
  exact ⟨s.k.trans w1, s.l.trans w2, fun i x y => ((s.2 _).1).trans (w3 i x y), w4⟩
section PW
variable {d p b : Nat} {h0 h : PH} {ES EP E D : Nat → Int → Int} {f1 f2 : Int → Int} {K1 K2 : Int} {Q : Int → PH → Prop} {X : Nat → PH → Prop}
theorem PWs.hp (Z : PWs h0 h p b ES EP E D f1 f2 K1 K2) : 66 ≤ p := Z.1.1
theorem PWs.hb (Z : PWs h0 h p b ES EP E D f1 f2 K1 K2) : 66 ≤ b := Z.1.2.1
theorem PWs.hd (Z : PWs h0 h p b ES EP E D f1 f2 K1 K2) : p < b ∨ b + 24 ≤ p := Z.1.2.2
theorem PWs.S (Z : PWs h0 h p b ES EP E D f1 f2 K1 K2) : Sx p h h ES := Z.2.1
theorem PWs.L (Z : PWs h0 h p b ES EP E D f1 f2 K1 K2) : Px b h h EP := Z.2.2.1
theorem PWs.M (Z : PWs h0 h p b ES EP E D f1 f2 K1 K2) : Hx (b + 10) h h E := Z.2.2.2.1.1
theorem PWs.e6 (Z : PWs h0 h p b ES EP E D f1 f2 K1 K2) : E 6 0 = 13 := Z.2.2.2.1.2.1
theorem PWs.e9 (Z : PWs h0 h p b ES EP E D f1 f2 K1 K2) : E 9 0 = 4 := Z.2.2.2.1.2.2
theorem PWs.F (Z : PWs h0 h p b ES EP E D f1 f2 K1 K2) : BFR h D := Z.2.2.2.2.1
theorem PWs.r0 (Z : PWs h0 h p b ES EP E D f1 f2 K1 K2) : hr h p 0 = 65 := Z.2.2.2.2.2.1.1
theorem PWs.r2 (Z : PWs h0 h p b ES EP E D f1 f2 K1 K2) : hr h p 2 = b := Z.2.2.2.2.2.1.2.1
theorem PWs.r3 (Z : PWs h0 h p b ES EP E D f1 f2 K1 K2) : hr h p 3 = b + 10 := Z.2.2.2.2.2.1.2.2
theorem PWs.P (Z : PWs h0 h p b ES EP E D f1 f2 K1 K2) : PCr ES D := Z.2.2.2.2.2.2.1
theorem PWs.N (Z : PWs h0 h p b ES EP E D f1 f2 K1 K2) : NMs EP f1 f2 K1 K2 := Z.2.2.2.2.2.2.2.1
theorem PWs.W (Z : PWs h0 h p b ES EP E D f1 f2 K1 K2) : WRD h := Z.2.2.2.2.2.2.2.2.1.1
theorem PWs.G (Z : PWs h0 h p b ES EP E D f1 f2 K1 K2) : SG h := Z.2.2.2.2.2.2.2.2.1.2
theorem PWs.fr (Z : PWs h0 h p b ES EP E D f1 f2 K1 K2) : hn h = hn h0 ∧ ∀ r, r ≠ p → ¬ (b ≤ r ∧ r < b + 24) → SC h0 h r := Z.2.2.2.2.2.2.2.2.2
theorem PWs.k5 (Z : PWs h0 h p b ES EP E D f1 f2 K1 K2) : hk h p = 5 := Z.S.k 0 (by decide) rfl
/-- the parser's own cell has changed -/
theorem PWs.s {h' : PH} {ES' D' : Nat → Int → Int} (Z : PWs h0 h p b ES EP E D f1 f2 K1 K2) (S' : Sx p h h' ES') (P' : PCr ES' D') (q : D' 10 = D 10) : PWs h0 h' p b ES' EP E D' f1 f2 K1 K2 := by
  have hd := Z.hd
  have hp := Z.hp
  have sc : ∀ r, r ≠ p → SC h h' r := fun r x => S'.2.1.sc (by omega)
  refine ⟨Z.1, S'.now, Bx.sa Z.L S'.2.1 (by omega), ⟨Bx.sa Z.M S'.2.1 (by omega), Z.e6, Z.e9⟩, (Z.F.sa S'.2.1 hp).eqD q, ⟨(S'.2.1.er p 0).trans Z.r0, (S'.2.1.er p 2).trans Z.r2, (S'.2.1.er p 3).trans Z.r3⟩, P', Z.N, ⟨Z.W.sc (fun r x _ => sc r (by omega)), Z.G.sc (fun r x _ => sc r (by omega))⟩, S'.2.1.1.trans Z.fr.1, fun r x y => (Z.fr.2 r x y).trans (sc r x)⟩
/-- the plan has changed -/
theorem PWs.l {h' : PH} {EP' : Nat → Int → Int} {g1 g2 : Int → Int} {J1 J2 : Int} (Z : PWs h0 h p b ES EP E D f1 f2 K1 K2) (L' : Px b h h' EP') (N' : NMs EP' g1 g2 J1 J2) : PWs h0 h' p b ES EP' E D g1 g2 J1 J2 := by
  have hd := Z.hd
  have hb := Z.hb
  have sc : ∀ r, ¬ (b ≤ r ∧ r < b + 10) → SC h h' r := fun r x => L'.2.1.sc x
  refine ⟨Z.1, Bx.sa Z.S L'.2.1 (by omega), L'.now, ⟨Bx.sa Z.M L'.2.1 (by omega), Z.e6, Z.e9⟩, Z.F.sa L'.2.1 hb, ⟨(L'.2.1.er p 0).trans Z.r0, (L'.2.1.er p 2).trans Z.r2, (L'.2.1.er p 3).trans Z.r3⟩, Z.P, N', ⟨Z.W.sc (fun r x _ => sc r (by omega)), Z.G.sc (fun r x _ => sc r (by omega))⟩, L'.2.1.1.trans Z.fr.1, fun r x y => (Z.fr.2 r x y).trans (sc r (by omega))⟩
/-- the hall has changed -/
theorem PWs.m {h' : PH} {E' : Nat → Int → Int} (Z : PWs h0 h p b ES EP E D f1 f2 K1 K2) (M' : Hx (b + 10) h h' E') (e6 : E' 6 0 = 13) (e9 : E' 9 0 = 4) : PWs h0 h' p b ES EP E' D f1 f2 K1 K2 := by
  have hd := Z.hd
  have hb := Z.hb
  have sc : ∀ r, ¬ (b + 10 ≤ r ∧ r < b + 10 + 14) → SC h h' r := fun r x => M'.2.1.sc x
  refine ⟨Z.1, Bx.sa Z.S M'.2.1 (by omega), Bx.sa Z.L M'.2.1 (by omega), ⟨M'.now, e6, e9⟩, Z.F.sa M'.2.1 (by omega), ⟨(M'.2.1.er p 0).trans Z.r0, (M'.2.1.er p 2).trans Z.r2, (M'.2.1.er p 3).trans Z.r3⟩, Z.P, Z.N, ⟨Z.W.sc (fun r x _ => sc r (by omega)), Z.G.sc (fun r x _ => sc r (by omega))⟩, M'.2.1.1.trans Z.fr.1, fun r x y => (Z.fr.2 r x y).trans (sc r (by omega))⟩
/-- only the model's rows beside the reading's have changed -/
theorem PWs.dd {D' : Nat → Int → Int} (Z : PWs h0 h p b ES EP E D f1 f2 K1 K2) (q : D' 10 = D 10) (P' : PCr ES D') : PWs h0 h p b ES EP E D' f1 f2 K1 K2 :=
  ⟨Z.1, Z.S, Z.L, Z.2.2.2.1, Z.F.eqD q, Z.2.2.2.2.2.1, P', Z.2.2.2.2.2.2.2⟩
theorem W_advance (Z : PWs h0 h p b ES EP E D f1 f2 K1 K2) (R : PR D) (H : ∀ h' ES', PWs h0 h' p b ES' EP E (gD D) f1 f2 K1 K2 → ES' 0 8 = ES 0 8 → Q 0 h') : RUN GQ (d + 3) m_X4_advance [pA p] h Q X :=
  S_X4_advance Z.r0 Z.F Z.hp R Z.S Z.P (fun h' ES' S' P' q => H h' ES' (Z.s S' P' (go_row D (by decide))) q)
theorem W_fail {w : Int} (Z : PWs h0 h p b ES EP E D f1 f2 K1 K2) (R : PR D) (H : ∀ h' ES', PWs h0 h' p b ES' EP E (flD D w) f1 f2 K1 K2 → ES' 0 8 = ES 0 8 → Q 0 h') : RUN GQ (d + 1) m_X4_fail [pA p, pI w] h Q X :=
  S_X4_fail Z.S Z.P R.e25 (fun h' ES' S' P' q => H h' ES' (Z.s S' P' (fl_row D w (by decide))) q)
theorem W_takeNumber {lo hi' : Int} (Z : PWs h0 h p b ES EP E D f1 f2 K1 K2) (R : PR D) (hlo : InR lo) (hhi : InR hi') (H : ∀ v h' ES', PWs h0 h' p b ES' EP E (gD (tkE D lo hi')) f1 f2 K1 K2 → ES' 0 8 = ES 0 8 → (tkE D lo hi' 0 25 = 0 → v = tvV D lo hi') → Q v h') : RUN GQ (d + 4) m_X4_takeNumber [pA p, pI lo, pI hi'] h Q X :=
  S_X4_takeNumber Z.r0 Z.F Z.hp R Z.S Z.P hlo hhi (fun v h' ES' S' P' q r => H v h' ES' (Z.s S' P' ((go_row _ (by decide)).trans (tE_row D lo hi' (by decide)))) q r)
theorem W_takeFirstWord {z : Int} (Z : PWs h0 h p b ES EP E D f1 f2 K1 K2) (R : PR D) (hz : z = 0 ∨ z = 1) (H : ∀ h' ES', PWs h0 h' p b ES' EP E (gD (if z = 0 then flD D 4 else D)) f1 f2 K1 K2 → ES' 0 8 = ES 0 8 → Q 0 h') : RUN GQ (d + 4) m_X4_takeFirstWord [pA p, pI z] h Q X :=
  S_X4_takeFirstWord Z.r0 Z.F Z.hp R Z.S Z.P hz (fun h' ES' S' P' q => H h' ES' (Z.s S' P' ((go_row _ (by decide)).trans (by split <;> first | exact fl_row D 4 (by decide) | rfl))) q)
theorem W_word (r : Nat) (hr' : 15 ≤ r ∧ r < 35) (Z : PWs h0 h p b ES EP E D f1 f2 K1 K2) (R : PR D) (h25 : D 0 25 = 0) (H : Q (wdv D (wdt r)) h) : RUN GQ (d + 7) m_X4_wordIs [pA p, pA r] h Q X :=
  S_X4_word r hr' Z.r0 Z.F Z.hp R Z.S Z.P h25 Z.W H
theorem W_knownName_k (Z : PWs h0 h p b ES EP E D f1 f2 K1 K2) (R : PR D) (hg : D 0 25 = 0 → f1 = D 11 ∧ K1 = D 0 31) (H : ∀ v h' ES', PWs h0 h' p b ES' EP E (nhD 11 (D 0 31) D) f1 f2 K1 K2 → ES' 0 8 = ES 0 8 → (nhD 11 (D 0 31) D 0 25 = 0 → v = nhV 11 (D 0 31) D) → (-1 ≤ v ∧ v < 8) → Q v h') : RUN GQ (d + 3) m_X4_knownName [pA p, pA (b + 1)] h Q X := by
  rw [e_X4_knownName]
  refine WP.of (RUN.mono GQ _) (cuts := []) (n := 400) (v_X4_knownName_0 _ _ _ _ _ _ ?_)
  have k5 := Z.k5
  have f4 : hi h p 4 = tkc (D 0 23) := (Z.S.f4 0 (by decide)).trans Z.P.2.1
  have f5 : hi h p 5 = D 0 22 := (Z.S.f5 0 (by decide)).trans Z.P.2.2.1
  have f6 : hi h p 6 = D 0 21 := (Z.S.f6 0 (by decide)).trans Z.P.2.2.2.1
  have tk := tkc_or (D 0 23)
  have r22 := R.2.1
  have rL := R.L
  have nm := Z.N
  rw [f4, f5, f6, Z.r0]
  refine ⟨k5, ir (by omega) (by omega), fun c => ⟨k5, k5, k5, k5, Z.L.k 1 (by decide) rfl, ?_⟩, fun c => ⟨k5, ?_⟩⟩
  · refine S_X2_placeOf_k Z.L Z.F nm.1.1 nm.1.2.1 nm.1.2.2 R.B ⟨by omega, by omega⟩ ⟨by omega, by omega⟩ (fun x ex => ?_)
    rw [show D 0 22 + (D 0 21 - D 0 22) = D 0 21 by omega] at ex
    have rg := nmv_rng f1 D (D 0 22) (D 0 21) (K1).toNat 0 (by omega)
    rw [← ex] at rg
    have k8 := nm.1.2.1
    have cl := (nh_cls (D := D) (j := 11) (many := D 0 31) (x := x) (fun z => by rw [ex, (hg z).1, (hg z).2])).1 (by omega)
    refine ⟨ir (by omega) (by omega), ir (by omega) (by omega), fun y => ⟨k5, ?_⟩, fun y => ?_⟩
    · have e := cl.1 y
      refine W_fail Z R (fun h' ES' Z' q => H x h' ES' (by rw [e]; exact Z') q (fun z => absurd z (by rw [e]; exact fl_25 D (by decide))) (by omega))
    · have e := (cl.2 y).1
      refine H x h ES (by rw [e]; exact Z) rfl (fun z => ?_) (by omega)
      rw [e] at z
      exact ((cl.2 y).2 z).symm
  · have e := (nh_cls (D := D) (j := 11) (many := D 0 31) (x := nmv (D 11) D (D 0 22) (D 0 21) (D 0 31).toNat 0) (fun _ => rfl)).2 (by omega)
    refine W_fail Z R (fun h' ES' Z' q => H (-1) h' ES' (by rw [e]; exact Z') q (fun z => absurd z (by rw [e]; exact fl_25 D (by decide))) (by omega))
theorem W_takeName_k (Z : PWs h0 h p b ES EP E D f1 f2 K1 K2) (R : PR D) (hg : D 0 25 = 0 → f1 = D 11 ∧ K1 = D 0 31) (H : ∀ v h' ES', PWs h0 h' p b ES' EP E (gD (nhD 11 (D 0 31) D)) f1 f2 K1 K2 → ES' 0 8 = ES 0 8 → (nhD 11 (D 0 31) D 0 25 = 0 → v = nhV 11 (D 0 31) D) → (-1 ≤ v ∧ v < 8) → Q v h') : RUN GQ (d + 4) m_X4_takeName [pA p, pA (b + 1)] h Q X := by
  rw [e_X4_takeName]
  refine WP.of (RUN.mono GQ _) (cuts := []) (n := 400) (v_X4_takeName_0 _ _ _ _ _ _ ?_)
  refine ⟨Z.k5, W_knownName_k Z R hg (fun v h1 ES1 Z1 q1 r1 g1 => ⟨Z1.k5, ?_⟩)⟩
  exact W_advance Z1 (R.nh _ _) (fun h2 ES2 Z2 q2 => H v h2 ES2 Z2 (q2.trans q1) r1 g1)
theorem W_knownName_p (Z : PWs h0 h p b ES EP E D f1 f2 K1 K2) (R : PR D) (hg : D 0 25 = 0 → f2 = D 12 ∧ K2 = D 0 32) (H : ∀ v h' ES', PWs h0 h' p b ES' EP E (nhD 12 (D 0 32) D) f1 f2 K1 K2 → ES' 0 8 = ES 0 8 → (nhD 12 (D 0 32) D 0 25 = 0 → v = nhV 12 (D 0 32) D) → (-1 ≤ v ∧ v < 8) → Q v h') : RUN GQ (d + 3) m_X4_knownName [pA p, pA (b + 4)] h Q X := by
  rw [e_X4_knownName]
  refine WP.of (RUN.mono GQ _) (cuts := []) (n := 400) (v_X4_knownName_0 _ _ _ _ _ _ ?_)
  have k5 := Z.k5
  have f4 : hi h p 4 = tkc (D 0 23) := (Z.S.f4 0 (by decide)).trans Z.P.2.1
  have f5 : hi h p 5 = D 0 22 := (Z.S.f5 0 (by decide)).trans Z.P.2.2.1
  have f6 : hi h p 6 = D 0 21 := (Z.S.f6 0 (by decide)).trans Z.P.2.2.2.1
  have tk := tkc_or (D 0 23)
  have r22 := R.2.1
  have rL := R.L
  have nm := Z.N
  rw [f4, f5, f6, Z.r0]
  refine ⟨k5, ir (by omega) (by omega), fun c => ⟨k5, k5, k5, k5, Z.L.k 4 (by decide) rfl, ?_⟩, fun c => ⟨k5, ?_⟩⟩
  · refine S_X2_placeOf_p Z.L Z.F nm.2.1 nm.2.2.1 nm.2.2.2 R.B ⟨by omega, by omega⟩ ⟨by omega, by omega⟩ (fun x ex => ?_)
    rw [show D 0 22 + (D 0 21 - D 0 22) = D 0 21 by omega] at ex
    have rg := nmv_rng f2 D (D 0 22) (D 0 21) (K2).toNat 0 (by omega)
    rw [← ex] at rg
    have k8 := nm.2.2.1
    have cl := (nh_cls (D := D) (j := 12) (many := D 0 32) (x := x) (fun z => by rw [ex, (hg z).1, (hg z).2])).1 (by omega)
    refine ⟨ir (by omega) (by omega), ir (by omega) (by omega), fun y => ⟨k5, ?_⟩, fun y => ?_⟩
    · have e := cl.1 y
      refine W_fail Z R (fun h' ES' Z' q => H x h' ES' (by rw [e]; exact Z') q (fun z => absurd z (by rw [e]; exact fl_25 D (by decide))) (by omega))
    · have e := (cl.2 y).1
      refine H x h ES (by rw [e]; exact Z) rfl (fun z => ?_) (by omega)
      rw [e] at z
      exact ((cl.2 y).2 z).symm
  · have e := (nh_cls (D := D) (j := 12) (many := D 0 32) (x := nmv (D 12) D (D 0 22) (D 0 21) (D 0 32).toNat 0) (fun _ => rfl)).2 (by omega)
    refine W_fail Z R (fun h' ES' Z' q => H (-1) h' ES' (by rw [e]; exact Z') q (fun z => absurd z (by rw [e]; exact fl_25 D (by decide))) (by omega))
theorem W_takeName_p (Z : PWs h0 h p b ES EP E D f1 f2 K1 K2) (R : PR D) (hg : D 0 25 = 0 → f2 = D 12 ∧ K2 = D 0 32) (H : ∀ v h' ES', PWs h0 h' p b ES' EP E (gD (nhD 12 (D 0 32) D)) f1 f2 K1 K2 → ES' 0 8 = ES 0 8 → (nhD 12 (D 0 32) D 0 25 = 0 → v = nhV 12 (D 0 32) D) → (-1 ≤ v ∧ v < 8) → Q v h') : RUN GQ (d + 4) m_X4_takeName [pA p, pA (b + 4)] h Q X := by
  rw [e_X4_takeName]
  refine WP.of (RUN.mono GQ _) (cuts := []) (n := 400) (v_X4_takeName_0 _ _ _ _ _ _ ?_)
  refine ⟨Z.k5, W_knownName_p Z R hg (fun v h1 ES1 Z1 q1 r1 g1 => ⟨Z1.k5, ?_⟩)⟩
  exact W_advance Z1 (R.nh _ _) (fun h2 ES2 Z2 q2 => H v h2 ES2 Z2 (q2.trans q1) r1 g1)
end PW
