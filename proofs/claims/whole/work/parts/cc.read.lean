/-! what reading a text leaves alone, and what a load leaves -/
def KD (D D' : Nat → Int → Int) : Prop := (∀ j, 1 ≤ j → (j ≤ 10 ∨ 19 ≤ j) → D' j = D j) ∧ ∀ e, e < 20 ∨ 34 < e → D' 0 e = D 0 e
section KDS
variable {A D D' : Nat → Int → Int}
theorem KD.refl (D : Nat → Int → Int) : KD D D := ⟨fun _ _ _ => rfl, fun _ _ => rfl⟩
theorem KD.trans (a : KD A D) (b : KD D D') : KD A D' := ⟨fun j x y => (b.1 j x y).trans (a.1 j x y), fun e x => (b.2 e x).trans (a.2 e x)⟩
theorem KD.st (a : KD A D) (S : ST D D') : KD A D' := ⟨fun j x y => (S.r (by omega)).trans (a.1 j x y), fun e x => (S.f (by omega)).trans (a.2 e x)⟩
theorem KD.d (a : KD A D) {j : Nat} (hj : 11 ≤ j ∧ j ≤ 18) (e v : Int) : KD A (dst D j e v) := ⟨fun i x y => (dst_row (by omega)).trans (a.1 i x y), fun e' x => by rw [dst_row (by omega)]; exact a.2 e' x⟩
theorem KD.d0 (a : KD A D) {e : Int} (he : 20 ≤ e ∧ e ≤ 34) (v : Int) : KD A (dst D 0 e v) := ⟨fun i x y => (dst_row (by omega)).trans (a.1 i x y), fun e' x => by rw [dst_ne (by omega)]; exact a.2 e' x⟩
theorem KD.go (a : KD A D) : KD A (gD D) := ⟨fun i x y => (go_row D (by omega)).trans (a.1 i x y), fun e' x => (go_0 D (by omega)).trans (a.2 e' x)⟩
theorem KD.fl (a : KD A D) (w : Int) : KD A (flD D w) := ⟨fun i x y => (fl_row D w (by omega)).trans (a.1 i x y), fun e' x => (fl_0 D w (by omega) (by omega)).trans (a.2 e' x)⟩
theorem KD.tok (a : KD A D) : KD A (tokD D) := ⟨fun i x y => (tok_row D (by omega)).trans (a.1 i x y), fun e' x => (tok_0 D (by omega)).trans (a.2 e' x)⟩
theorem KD.nw (a : KD A D) {j : Nat} (hj : 11 ≤ j ∧ j ≤ 18) (many k : Int) : KD A (nwD j many k D) := ⟨fun i x y => (nw_row j many k D (by omega) (by omega)).trans (a.1 i x y), fun e' x => (nw_0 j many k D (by omega) (by omega)).trans (a.2 e' x)⟩
theorem lal_KD (g : Int) : ∀ (n : Nat) (D : Nat → Int → Int), PR D → KD D (lal g n D)
  | 0, D, _ => KD.refl D
  | n + 1, D, P => by
    rw [lal]
    split
    · refine KD.trans ⟨fun j x y => la_row P g (by omega) (by omega) (by omega), fun e x => ?_⟩ (lal_KD g n _ (P.la g))
      rw [la_0]
      exact (ST_laG P g).f (by omega)
    · exact KD.refl D
theorem li_KD (P : PR D) : KD D (liD D) := by
  have l1 : ∀ f K : Int, KD D (gD (l1D D f K)) := fun f K => (KD.refl D).st (((ST.refl P).l1 f K).go)
  unfold liD
  split
  · have k : KD D (lkC D) := KD.st (D := lkW D) ((l1 31 8).nw (by decide) _ _) (lk_W P)
    unfold lkD
    split
    · exact ((((k.d (by decide) _ _).d (by decide) _ _).d (by decide) _ _).d0 (by decide) _)
    · exact k
  · split
    · exact KD.d0 (D := lpW D) ((l1 32 6).nw (by decide) _ _) (by decide) _
    · split
      · unfold lnD
        split
        · have k : KD D (lnR D) := (((KD.refl D).st (ST_lnT P)).d (by decide) _ _).d0 (by decide) _
          exact k.trans (lal_KD (lng D) 5 (lnR D) (show PR (lnR D) from ((ST_lnT P).P.row _ _ (by decide) (by decide)).f (by decide)))
        · exact (KD.refl D).st (ST_lnT P)
      · split
        · have k : KD D (lhE D) := (KD.refl D).st (ST_lhE P)
          refine KD.go (D := lhF D) ?_
          unfold lhF
          split
          · exact k.d (by decide) _ _
          · exact k
        · split
          · have k : KD D (lsE D) := (KD.refl D).st (ST_lsE P)
            unfold lsD
            split
            · exact ((((k.d (by decide) _ _).d (by decide) _ _).d (by decide) _ _).d0 (by decide) _)
            · exact k
          · exact (KD.refl D).fl 1
theorem rdl_KD : ∀ (m : Nat) (D : Nat → Int → Int), PR D → RI D → KD D (rdl m D)
  | 0, D, _, _ => KD.refl D
  | m + 1, D, P, I => by
    rw [rdl]
    split
    · have IT := I.st (ST.tok P)
      have a := li_all P.tok IT
      exact ((KD.refl D).tok).trans ((li_KD P.tok).trans (rdl_KD m _ a.2.1 a.1))
    · exact KD.refl D
theorem rdz_KD : ∀ (m : Nat) (k : Int) (D : Nat → Int → Int), KD D (rdz m k D) := fun m k D => ⟨fun j x y => rdz_row (by omega) (by omega) m k D, fun e _ => by rw [rdz_row (by decide) (by decide)]⟩
theorem rdm_KD : ∀ (m : Nat) (k : Int) (D : Nat → Int → Int), KD D (rdm m k D) := fun m k D => ⟨fun j x y => rdm_row (by omega) m k D, fun e _ => by rw [rdm_row (by decide)]⟩
theorem rd0_KD (D : Nat → Int → Int) (n : Int) : KD D (rd0 D n) :=
  ((((((((KD.refl D).d0 (by decide) _).d0 (by decide) _).d0 (by decide) _).d0 (by decide) _).d0 (by decide) _).d0 (by decide) _).d0 (by decide) _).d0 (by decide) _
theorem rd_KD {C : Nat → Int → Int} (P : PR C) {lo hi e v : Int} (h : 20 ≤ e ∧ e ≤ 34) : KD C (dst (gD (tkE C lo hi)) 0 e v) := ((KD.refl C).st (((ST.refl P).tE lo hi).go)).d0 h _
theorem rdD_KD {n : Int} (hn : 0 ≤ n ∧ n ≤ 700) (hB : BY D) (h1 : NB (D 11)) (h2 : NB (D 12)) (hk : RIk D) : KD D (rdD D n) := by
  obtain ⟨PA, IA⟩ := rdA_all hn hB h1 h2 hk
  obtain ⟨PH, IH, hS⟩ := rdH_all hn hB h1 h2 hk
  have kA : KD D (rdA D n) := (((rd0_KD D n).trans (rdz_KD 48 0 _)).trans (rdm_KD 6 0 _)).tok
  have kH : KD (rdA D n) (rdH D n) := by
    have SC := rdC_all PA
    have PC := SC.P
    have k0 : KD (rdA D n) (rdC (rdA D n)) := (KD.refl _).st SC
    unfold rdH
    generalize rdC (rdA D n) = C at PC k0 ⊢
    have P1 : PR (rd1 C) := PR_rd C PC (by decide)
    have P2 : PR (rd2 (rd1 C)) := PR_rd _ P1 (by decide)
    have P3 : PR (rd3 (rd2 (rd1 C))) := PR_rd _ P2 (by decide)
    exact (((k0.trans (rd_KD PC (by decide))).trans (rd_KD P1 (by decide))).trans (rd_KD P2 (by decide))).trans (rd_KD P3 (by decide))
  have kL := (kA.trans kH).trans (rdl_KD 702 _ PH IH)
  unfold rdD rdZ
  split
  · exact kL
  · exact kL.fl 1
theorem hcn_congr {f g : Int → Int} : ∀ (n : Nat), (∀ e : Int, 0 ≤ e → e < n → f e = g e) → hcn f n = hcn g n
  | 0, _ => rfl
  | n + 1, h => by
    have a := hcn_congr (f := f) (g := g) n (fun e x y => h e x (by omega))
    have b := h n (by omega) (by omega)
    rw [hcn, hcn, a, b]
theorem NR.eq {ln lt f g : Int → Int} {K m : Int} (N : NR ln lt f K) (hm : 7 * K ≤ m) (q : ∀ e, 0 ≤ e → e < m → g e = f e) : NR ln lt g K := fun k a b => by
  obtain ⟨n1, n2, n3⟩ := N k a b
  refine ⟨n1, fun i x y => ?_, fun i x y => ?_⟩
  · rw [q _ (by omega) (by omega)]
    exact n2 i x y
  · rw [q _ (by omega) (by omega)]
    exact n3 i x y
/-- the plan behind a load -/
theorem PT_bc {EP : Nat → Int → Int} {f1 f2 : Int → Int} {K1 K2 : Int} (I : RI D) (N : NMs EP f1 f2 K1 K2) (e1 : f1 = D 11 ∧ K1 = D 0 31) (e2 : f2 = D 12 ∧ K2 = D 0 32) (L : PLr EP D) : PT EP (bcD D) := by
  obtain ⟨⟨g2, g3, g4, g5⟩, fe, r1, r2, r34, r5, rj⟩ := bc_rows D
  obtain ⟨⟨i31, i32, n11, n12⟩, i34, im, ik, ia, is', i33⟩ := I
  obtain ⟨⟨m1, m2, m3⟩, m4, m5, m6⟩ := N
  rw [e1.1, e1.2] at m3
  rw [e2.1, e2.2] at m6
  refine ⟨⟨⟨by rw [g3, m1, e1.2], by rw [g4, m4, e2.2]⟩, fun e a b => ?_, fun g i w a b c d u v => ?_⟩, ?_, ?_, ?_, fun g a b c => ?_⟩
  · rw [(r34 e a b).1, (r34 e a b).2]
    exact L.1 e a b
  · rw [(r34 g a b).2] at d
    have q := (ia g a b).2.1
    rw [r5 _ (by omega) (by omega)]
    exact L.2 g i w a b c d u v
  · rw [g3]
    exact m3.eq (m := 56) (by omega) r1
  · rw [g4]
    exact m6.eq (m := 42) (by omega) r2
  · rw [g5, i33]
    exact (hcn_congr 48 (fun e a b => (r34 e a (by omega)).1)).symm
  · rw [(r34 g a b).1] at c
    rw [g3, g4]
    exact (ia g a b).2.2.2.1 c
theorem bc2 (D : Nat → Int → Int) {e : Int} (h : ¬ (0 ≤ e ∧ e < 42)) : bcD D 2 e = D 2 e := by
  unfold bcD bd0 bd1 bd2 bd3
  rw [rcp_row (by decide), rc2_row (by decide) (by decide), rcp_at (by decide), if_neg (by omega), rcp_row (by decide), dst_row (by decide), dst_row (by decide), dst_row (by decide), dst_row (by decide)]
end KDS
/-! no error: no place of one -/
def Z6 (A D : Nat → Int → Int) : Prop := D 0 25 = 0 → A 0 25 = 0 ∧ D 0 26 = A 0 26
section Z6S
variable {A D D' : Nat → Int → Int}
theorem Z6.refl (D : Nat → Int → Int) : Z6 D D := fun h => ⟨h, rfl⟩
theorem Z6.trans (a : Z6 A D) (b : Z6 D D') : Z6 A D' := fun h => ⟨(a (b h).1).1, (b h).2.trans (a (b h).1).2⟩
theorem Z6.fl (D : Nat → Int → Int) {w : Int} (hw : w ≠ 0) : Z6 A (flD D w) := fun h => absurd h (fl_25 D hw)
theorem Z6.same (a : Z6 A D) (h5 : D' 0 25 = D 0 25) (h6 : D' 0 26 = D 0 26) : Z6 A D' := fun h => by
  rw [h5] at h
  rw [h6]
  exact a h
theorem Z6.row (a : Z6 A D) {j : Nat} (hj : j ≠ 0) (e v : Int) : Z6 A (dst D j e v) := a.same (by rw [dst_row (Ne.symm hj)]) (by rw [dst_row (Ne.symm hj)])
theorem Z6.d0 (a : Z6 A D) {e : Int} (h5 : e < 25 ∨ 26 < e) (v : Int) : Z6 A (dst D 0 e v) := a.same (dst_ne (by omega)) (dst_ne (by omega))
theorem Z6.tok (a : Z6 A D) : Z6 A (tokD D) := a.same (tok_25 D) (tok_26 D)
theorem Z6.go (a : Z6 A D) : Z6 A (gD D) := by
  unfold gD
  split
  · exact a.tok
  · exact a
theorem Z6.tE (a : Z6 A D) (lo hi : Int) : Z6 A (tkE D lo hi) := by
  unfold tkE
  split
  · split
    · exact a
    · exact Z6.fl D (by decide)
  · exact Z6.fl D (by decide)
theorem Z6.n1 (a : Z6 A D) : Z6 A (n1D D) := by
  unfold n1D
  split
  · exact a
  · exact Z6.fl D (by decide)
theorem Z6.nh (a : Z6 A D) (j : Nat) (many : Int) : Z6 A (nhD j many D) := by
  unfold nhD
  split
  · exact Z6.fl _ (by decide)
  · exact a.n1
theorem Z6.nn (a : Z6 A D) (j : Nat) (many : Int) : Z6 A (nnD j many D) := by
  unfold nnD
  split
  · exact Z6.fl _ (by decide)
  · exact a.n1
theorem Z6.l1 (a : Z6 A D) (f K : Int) : Z6 A (l1D D f K) := by
  unfold l1D
  split
  · exact Z6.fl _ (by decide)
  · exact a
theorem Z6.nw (a : Z6 A D) {j : Nat} (hj : j ≠ 0) (many k : Int) : Z6 A (nwD j many k D) := by
  unfold nwD
  refine Z6.go ?_
  split
  · exact (a.nn j many).same (by rw [nwl_row (Ne.symm hj)]) (by rw [nwl_row (Ne.symm hj)])
  · exact a.nn j many
theorem Z6.la (a : Z6 A D) (g : Int) : Z6 A (laD D g) := by
  have f : Z6 A (laF D) := by
    unfold laF
    split
    · exact Z6.fl _ (by decide)
    · exact a
  have q : Z6 A (laA D g) := by
    unfold laA
    split
    · exact Z6.fl _ (by decide)
    · exact f
  have c : Z6 A (laC D g) := Z6.go (Z6.nh (Z6.go q) _ _)
  have e : Z6 A (laE D g) := by
    unfold laE
    split
    · exact (c.nh _ _).go
    · exact c
  have u : Z6 A (laG D g) := by
    unfold laG
    split
    · exact (e.tE _ _).go
    · exact e
  exact u.same (by rw [la_0]) (by rw [la_0])
theorem lal_Z6 (g : Int) : ∀ (n : Nat) (D : Nat → Int → Int), Z6 A D → Z6 A (lal g n D)
  | 0, _, a => a
  | n + 1, D, a => by
    rw [lal]
    split
    · exact lal_Z6 g n _ (a.la g)
    · exact a
theorem li_Z6 (D : Nat → Int → Int) : Z6 D (liD D) := by
  have a : Z6 D D := Z6.refl D
  have hc : Z6 D (lhC D) := ((a.go.nh _ _).go).nh _ _
  unfold liD
  split
  · have k : Z6 D (lkC D) := ((((((a.l1 31 8).go.nw (j := 11) (by decide) _ _).tE 1 99).go).tE 0 20).go.tE 1 200).go
    unfold lkD
    split
    · exact ((((k.row (by decide) _ _).row (by decide) _ _).row (by decide) _ _).d0 (by decide) _)
    · exact k
  · split
    · exact Z6.d0 (D := lpW D) ((a.l1 32 6).go.nw (by decide) _ _) (by decide) _
    · split
      · have e : Z6 D (lnE D) := by
          unfold lnE
          split
          · exact Z6.fl _ (by decide)
          · exact hc
        have t : Z6 D (lnT D) := (e.go.tE 1 20).go
        unfold lnD
        split
        · exact lal_Z6 (lng D) 5 (lnR D) ((t.row (by decide) _ _).d0 (by decide) _)
        · exact t
      · split
        · have e : Z6 D (lhE D) := by
            unfold lhE
            split
            · exact Z6.fl _ (by decide)
            · exact hc
          refine Z6.go (D := lhF D) ?_
          unfold lhF
          split
          · exact e.row (by decide) _ _
          · exact e
        · split
          · have k : Z6 D (lsE D) := ((((((a.l1 34 12).go.nh 12 (D 0 32)).go).nh 11 (D 0 31)).go).tE 0 999).go
            unfold lsD
            split
            · exact ((((k.row (by decide) _ _).row (by decide) _ _).row (by decide) _ _).d0 (by decide) _)
            · exact k
          · exact Z6.fl _ (by decide)
theorem rdl_Z6 : ∀ (m : Nat) (D : Nat → Int → Int), Z6 D (rdl m D)
  | 0, D => Z6.refl D
  | m + 1, D => by
    rw [rdl]
    split
    · exact ((Z6.refl D).tok).trans ((li_Z6 _).trans (rdl_Z6 m _))
    · exact Z6.refl D
theorem rdD_26 {n : Int} (h : rdD D n 0 25 = 0) : rdD D n 0 26 = -1 := by
  have kA : rdA D n 0 26 = -1 := by
    unfold rdA
    rw [tok_26, rdm_row (by decide), rdz_row (by decide) (by decide)]
    unfold rd0
    rw [dst_ne (by decide), dst_ne (by decide), dst_ne (by decide), dst_ne (by decide), dst_eq]
  have kH : Z6 (rdA D n) (rdH D n) := by
    have k0 : Z6 (rdA D n) (rdC (rdA D n)) := by
      unfold rdC
      refine Z6.go ?_
      split
      · exact Z6.refl _
      · exact Z6.fl _ (by decide)
    unfold rdH
    generalize rdC (rdA D n) = C at k0 ⊢
    have st : ∀ (C : Nat → Int → Int) (lo hi e v : Int), 26 < e → Z6 C (dst (gD (tkE C lo hi)) 0 e v) := fun C lo hi e v he => (((Z6.refl C).tE lo hi).go).d0 (Or.inr he) v
    exact (((k0.trans (st C 1 4 27 _ (by decide))).trans (st (rd1 C) 0 50 28 _ (by decide))).trans (st (rd2 (rd1 C)) 1 50 29 _ (by decide))).trans (st (rd3 (rd2 (rd1 C))) 1 12 30 _ (by decide))
  have kZ : Z6 (rdA D n) (rdD D n) := by
    have kL := kH.trans (rdl_Z6 702 _)
    unfold rdD rdZ
    split
    · exact kL
    · exact Z6.fl _ (by decide)
  exact (kZ h).2.trans kA
end Z6S
