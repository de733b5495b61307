/-! the two shares: the class, the law's calls, the law's cases -/
section SHV
variable {call : PC} {mc ms fr : Nat} {Q : Int → PH → Prop} {X : Nat → PH → Prop} {K : PK}
set_option maxRecDepth 100000 in
theorem v_X6_meanWait_0 (a0 : Nat) (z1 : Option PV) (h : PH) (c s : Nat) (H : hk h a0 = 7 ∧ (c + 1 ≤ mc ∧ s + 6 ≤ ms) ∧ call m_X6_needHall [pA a0] h (fun _ h1 =>
 hk h1 a0 = 7 ∧ hk h1 (hr h1 a0 6) = 1 ∧ call m_X0_endedBy [pA (hr h1 a0 6), pI 0] h1 (fun x2 h2 =>
 InR x2 ∧ (0 < x2 →
 hk h2 a0 = 7 ∧ hk h2 (hr h2 a0 6) = 1 ∧ okD (fddiv (fi2d (hi h2 (hr h2 a0 6) 12)) (fi2d x2)) ∧ Q (fddiv (fi2d (hi h2 (hr h2 a0 6) 12)) (fi2d x2)) h2) ∧
(x2 ≤ 0 →
 Q 0 h2)) X) X) : wpc k_X6_meanWait [] call mc ms fr Q X [] K 400 (pto 0 k_X6_meanWait) [some (pA a0), z1] [] h c s :=
  H

set_option maxRecDepth 100000 in
theorem v_X6_handledShare_0 (a0 : Nat) (z1 : Option PV) (h : PH) (c s : Nat) (H : hk h a0 = 7 ∧ (c + 1 ≤ mc ∧ s + 6 ≤ ms) ∧ call m_X6_needHall [pA a0] h (fun _ h1 =>
 hk h1 a0 = 7 ∧ hk h1 (hr h1 a0 6) = 1 ∧ InR (hi h1 (hr h1 a0 6) 9) ∧ (0 < (hi h1 (hr h1 a0 6) 9) →
 hk h1 a0 = 7 ∧ hk h1 (hr h1 a0 6) = 1 ∧ call m_X0_endedBy [pA (hr h1 a0 6), pI 0] h1 (fun x2 h2 =>
 okF (ffdiv (fi2f x2) (fi2f (hi h1 (hr h1 a0 6) 9))) ∧ Q (ffdiv (fi2f x2) (fi2f (hi h1 (hr h1 a0 6) 9))) h2) X) ∧
((hi h1 (hr h1 a0 6) 9) ≤ 0 →
 Q 0 h1)) X) : wpc k_X6_handledShare [] call mc ms fr Q X [] K 400 (pto 0 k_X6_handledShare) [some (pA a0), z1] [] h c s :=
  H

set_option maxRecDepth 100000 in
theorem v_L_meanWait_0 (a0 : Nat) (a1 : Nat) (z2 : Option PV) (h : PH) (c s : Nat) (H : hk h a0 = 7 ∧ (c + 24 ≤ mc ∧ s + 1700 ≤ ms) ∧ call m_X6_meanWait [pA a0] h (fun x1 h1 =>
 hk h1 a1 = 24 ∧ (0 ≤ (0 : Int) ∧ (0 : Int) < (hl h1 a1 : Int)) ∧ ∀ h2, h2 = hsi h1 a1 (Int.toNat (0 : Int)) x1 →
 Q 0 h2) (fun e h1 => (e = 0 →
 Q 1 h1) ∧
(e ≠ 0 →
 X e h1))) : wpc k_L_meanWait [(0, 7, 0, 11, 2)] call mc ms fr Q X [] K 400 (pto 0 k_L_meanWait) [some (pA a0), some (pA a1), z2] [] h c s :=
  H

set_option maxRecDepth 100000 in
theorem v_L_handledShare_0 (a0 : Nat) (a1 : Nat) (z2 : Option PV) (h : PH) (c s : Nat) (H : hk h a0 = 7 ∧ (c + 24 ≤ mc ∧ s + 1700 ≤ ms) ∧ call m_X6_handledShare [pA a0] h (fun x1 h1 =>
 okD (ff2d x1) ∧ hk h1 a1 = 24 ∧ (0 ≤ (0 : Int) ∧ (0 : Int) < (hl h1 a1 : Int)) ∧ ∀ h2, h2 = hsi h1 a1 (Int.toNat (0 : Int)) (ff2d x1) →
 Q 0 h2) (fun e h1 => (e = 0 →
 Q 1 h1) ∧
(e ≠ 0 →
 X e h1))) : wpc k_L_handledShare [(0, 8, 0, 12, 2)] call mc ms fr Q X [] K 400 (pto 0 k_L_handledShare) [some (pA a0), some (pA a1), z2] [] h c s :=
  H

set_option maxRecDepth 100000 in
theorem v_L_law_1524 (a0 : Nat) (a1 : Nat) (a2 : Nat) (a3 : Nat) (a4 : Nat) (i5 : Int) (z6 : Option PV) (z7 : Option PV) (z8 : Option PV) (h : PH) (c s : Nat) (H : (c + 24 ≤ mc ∧ s + 1700 ≤ ms) ∧ call m_L_meanWait [pA a1, pA a4] h (fun x1 h1 =>
 hk h1 a2 = 8 ∧ call m_X7_meanWait [pA a2] h1 (fun x2 h2 =>
 hk h2 a2 = 8 ∧ call m_X7_thrown [pA a2] h2 (fun x3 h3 =>
 InR x3 ∧ InR x1 ∧ (x3 = x1 →
 InR x1 ∧ (x1 = 0 →
 hk h3 a4 = 24 ∧ (0 ≤ (0 : Int) ∧ (0 : Int) < (hl h3 a4 : Int)) ∧ InR (fdcmp (hi h3 a4 (Int.toNat (0 : Int))) x2 .l) ∧ ((fdcmp (hi h3 a4 (Int.toNat (0 : Int))) x2 .l) = 0 →
 K 28 [some (pA a0), some (pA a1), some (pA a2), some (pA a3), some (pA a4), some (pI (i5 + 6)), some (pI x1), some (pW 4 x2), none] [] h3 (c + 24) (s + 1700)) ∧
((fdcmp (hi h3 a4 (Int.toNat (0 : Int))) x2 .l) ≠ 0 →
 hk h3 a4 = 24 ∧ (0 ≤ (0 : Int) ∧ (0 : Int) < (hl h3 a4 : Int)) ∧ hk h3 a4 = 24 ∧ (0 ≤ (0 : Int) ∧ (0 : Int) < (hl h3 a4 : Int)) ∧ InR (fdcmp (hi h3 a4 (Int.toNat (0 : Int))) (hi h3 a4 (Int.toNat (0 : Int))) .l) ∧ ((fdcmp (hi h3 a4 (Int.toNat (0 : Int))) (hi h3 a4 (Int.toNat (0 : Int))) .l) = 0 →
 ((0 : Int) = 0 ∨ (0 : Int) = 1) ∧ Q 0 h3) ∧
((fdcmp (hi h3 a4 (Int.toNat (0 : Int))) (hi h3 a4 (Int.toNat (0 : Int))) .l) ≠ 0 →
 InR (fdcmp x2 x2 .l) ∧ ((fdcmp x2 x2 .l) = 0 →
 ((0 : Int) = 0 ∨ (0 : Int) = 1) ∧ Q 0 h3) ∧
((fdcmp x2 x2 .l) ≠ 0 →
 K 28 [some (pA a0), some (pA a1), some (pA a2), some (pA a3), some (pA a4), some (pI (i5 + 6)), some (pI x1), some (pW 4 x2), none] [] h3 (c + 24) (s + 1700))))) ∧
(x1 ≠ 0 →
 K 28 [some (pA a0), some (pA a1), some (pA a2), some (pA a3), some (pA a4), some (pI (i5 + 6)), some (pI x1), some (pW 4 x2), none] [] h3 (c + 24) (s + 1700))) ∧
(x3 ≠ x1 →
 ((0 : Int) = 0 ∨ (0 : Int) = 1) ∧ Q 0 h3)) X) X) X) : wpc k_L_law [] call mc ms fr Q X [28, 1524] K 400 (pto 1524 k_L_law) [some (pA a0), some (pA a1), some (pA a2), some (pA a3), some (pA a4), some (pI i5), z6, z7, z8] [] h c s :=
  H

set_option maxRecDepth 100000 in
theorem v_L_law_1589 (a0 : Nat) (a1 : Nat) (a2 : Nat) (a3 : Nat) (a4 : Nat) (i5 : Int) (z6 : Option PV) (z7 : Option PV) (z8 : Option PV) (h : PH) (c s : Nat) (H : (c + 24 ≤ mc ∧ s + 1700 ≤ ms) ∧ call m_L_handledShare [pA a1, pA a4] h (fun x1 h1 =>
 hk h1 a2 = 8 ∧ call m_X7_handledShare [pA a2] h1 (fun x2 h2 =>
 hk h2 a2 = 8 ∧ call m_X7_thrown [pA a2] h2 (fun x3 h3 =>
 InR x3 ∧ InR x1 ∧ (x3 = x1 →
 InR x1 ∧ (x1 = 0 →
 hk h3 a4 = 24 ∧ (0 ≤ (0 : Int) ∧ (0 : Int) < (hl h3 a4 : Int)) ∧ okD (ff2d x2) ∧ InR (fdcmp (hi h3 a4 (Int.toNat (0 : Int))) (ff2d x2) .l) ∧ ((fdcmp (hi h3 a4 (Int.toNat (0 : Int))) (ff2d x2) .l) = 0 →
 K 28 [some (pA a0), some (pA a1), some (pA a2), some (pA a3), some (pA a4), some (pI (i5 + 6)), some (pI x1), some (pW 3 x2), z8] [] h3 (c + 24) (s + 1700)) ∧
((fdcmp (hi h3 a4 (Int.toNat (0 : Int))) (ff2d x2) .l) ≠ 0 →
 hk h3 a4 = 24 ∧ (0 ≤ (0 : Int) ∧ (0 : Int) < (hl h3 a4 : Int)) ∧ hk h3 a4 = 24 ∧ (0 ≤ (0 : Int) ∧ (0 : Int) < (hl h3 a4 : Int)) ∧ InR (fdcmp (hi h3 a4 (Int.toNat (0 : Int))) (hi h3 a4 (Int.toNat (0 : Int))) .l) ∧ ((fdcmp (hi h3 a4 (Int.toNat (0 : Int))) (hi h3 a4 (Int.toNat (0 : Int))) .l) = 0 →
 ((0 : Int) = 0 ∨ (0 : Int) = 1) ∧ Q 0 h3) ∧
((fdcmp (hi h3 a4 (Int.toNat (0 : Int))) (hi h3 a4 (Int.toNat (0 : Int))) .l) ≠ 0 →
 InR (ffcmp x2 x2 .l) ∧ ((ffcmp x2 x2 .l) = 0 →
 ((0 : Int) = 0 ∨ (0 : Int) = 1) ∧ Q 0 h3) ∧
((ffcmp x2 x2 .l) ≠ 0 →
 K 28 [some (pA a0), some (pA a1), some (pA a2), some (pA a3), some (pA a4), some (pI (i5 + 6)), some (pI x1), some (pW 3 x2), z8] [] h3 (c + 24) (s + 1700))))) ∧
(x1 ≠ 0 →
 K 28 [some (pA a0), some (pA a1), some (pA a2), some (pA a3), some (pA a4), some (pI (i5 + 6)), some (pI x1), some (pW 3 x2), z8] [] h3 (c + 24) (s + 1700))) ∧
(x3 ≠ x1 →
 ((0 : Int) = 0 ∨ (0 : Int) = 1) ∧ Q 0 h3)) X) X) X) : wpc k_L_law [] call mc ms fr Q X [28, 1589] K 400 (pto 1589 k_L_law) [some (pA a0), some (pA a1), some (pA a2), some (pA a3), some (pA a4), some (pI i5), z6, z7, z8] [] h c s :=
  H

end SHV
/-- the mean of what signals waited; the share that was handled -/
def mwv (s : Int → Int) : Int := if s 4 = 0 then 0 else fddiv (fi2d (s 3)) (fi2d (s 4))
def hsv (s : Int → Int) : Int := if s 2 = 0 then 0 else ffdiv (fi2f (s 4)) (fi2f (s 2))
section SHC
variable {d : Nat} {h : PH} {D : Nat → Int → Int} {s : Int → Int} {N N' : Int} {Q : Int → PH → Prop} {X : Nat → PH → Prop}
theorem hsv_ok (G : CD D s N) (hN : N ≤ 99999999) (l : D 0 1 ≠ 0) : okF (hsv s) := by
  have e2 := (G.u l).1.e2
  unfold hsv
  split
  · exact f_0
  · exact f_ok (ir (by omega) (by omega)) (by omega)
theorem S_X6_meanWait {B A : Nat} {EP E : Nat → Int → Int} (T : FT h B A EP E D s) (G : CD D s N) (hN : N ≤ 99999999) (H : tL D = 0 → Q (mwv s) h) (HX : ∀ (e n' : Nat), tL D = 1 ∧ e = 0 → hn h ≤ n' → X e (hup h n')) : RUN GQ (d + 7) m_X6_meanWait [pA 64] h Q X := by
  rw [e_X6_meanWait]
  refine WP.of (RUN.mono GQ _) (cuts := []) (n := 400) (v_X6_meanWait_0 _ _ _ _ _ ?_)
  have tl := tL_or D
  refine ⟨T.k, ⟨by decide, by decide⟩, S_X6_needHall T (fun l => ?_) (fun l n' q => HX 0 n' ⟨by omega, rfl⟩ q)⟩
  obtain ⟨I, V, sw⟩ := G.u l
  obtain ⟨R, U⟩ := T.u l
  have k1 : hk h A = 1 := T.M.k 0 (by decide) rfl
  have e4 := I.cn (e := 4) (Or.inr (Or.inl ⟨by omega, by omega⟩))
  have r12 : hi h A 12 = s 3 := (T.M.f12 0 (by decide)).trans R.fl.2.2.2.1
  rw [T.r6]
  refine ⟨T.k, k1, S_X0_endedBy T.M R I (by omega) (fun x e => ?_)⟩
  have e : x = s 4 := e
  rw [T.r6, r12, e]
  refine ⟨ir (by omega) (by omega), fun c => ⟨T.k, k1, d_ok (ir (by omega) (by omega)) (by omega), ?_⟩, fun c => ?_⟩
  · have q := H (by omega)
    unfold mwv at q
    rw [if_neg (by omega)] at q
    exact q
  · have q := H (by omega)
    unfold mwv at q
    rw [if_pos (by omega)] at q
    exact q
theorem S_X6_handledShare {B A : Nat} {EP E : Nat → Int → Int} (T : FT h B A EP E D s) (G : CD D s N) (hN : N ≤ 99999999) (H : tL D = 0 → Q (hsv s) h) (HX : ∀ (e n' : Nat), tL D = 1 ∧ e = 0 → hn h ≤ n' → X e (hup h n')) : RUN GQ (d + 7) m_X6_handledShare [pA 64] h Q X := by
  rw [e_X6_handledShare]
  refine WP.of (RUN.mono GQ _) (cuts := []) (n := 400) (v_X6_handledShare_0 _ _ _ _ _ ?_)
  have tl := tL_or D
  refine ⟨T.k, ⟨by decide, by decide⟩, S_X6_needHall T (fun l => ?_) (fun l n' q => HX 0 n' ⟨by omega, rfl⟩ q)⟩
  obtain ⟨I, V, sw⟩ := G.u l
  obtain ⟨R, U⟩ := T.u l
  have k1 : hk h A = 1 := T.M.k 0 (by decide) rfl
  have e2 := I.e2
  have r9 : hi h A 9 = s 2 := (T.M.f9 0 (by decide)).trans R.fl.1
  rw [T.r6, r9]
  refine ⟨T.k, k1, ir (by omega) (by omega), fun c => ⟨T.k, k1, S_X0_endedBy T.M R I (by omega) (fun x e => ?_)⟩, fun c => ?_⟩
  · have e : x = s 4 := e
    rw [e]
    have q := H (by omega)
    unfold hsv at q
    rw [if_neg (by omega)] at q
    exact ⟨f_ok (ir (by omega) (by omega)) (by omega), q⟩
  · have q := H (by omega)
    unfold hsv at q
    rw [if_pos (by omega)] at q
    exact q
theorem W_outD {h1 : PH} {x : Int} {Q : Int → PH → Prop} (o : OS h) (c : CF h h1) (H : ∀ h2, CG h h2 → hi h2 140 0 = x → (∀ D' s' N', CP h1 D' s' N' → CP h2 D' s' N') → Q 0 h2) : hk h1 140 = 24 ∧ (0 ≤ (0 : Int) ∧ (0 : Int) < (hl h1 140 : Int)) ∧ ∀ h2, h2 = hsi h1 140 (Int.toNat (0 : Int)) x → Q 0 h2 := by
  have g := c.cg
  have o1 := o.cg g
  refine ⟨o1.2.1, ⟨by decide, by rw [o1.2.2]; decide⟩, fun h2 q2 => ?_⟩
  have sc : ∀ r, r ≠ 140 → SC h1 h2 r := fun r a => by
    rw [q2]
    exact ⟨rfl, fun k => ⟨by rw [hi_hsi, if_neg (by omega)], rfl⟩⟩
  have t2 : h2.2.1 = h1.2.1 := by rw [q2]; rfl
  have n2 : hn h2 = hn h1 := by rw [q2]; rfl
  have gn := g.1
  refine H h2 ⟨by omega, fun r a b c1 d => (g.2.1 r a b c1 d).trans (sc r d), by rw [t2]; exact g.2.2.1, by rw [t2]; exact g.2.2.2⟩ ?_ (fun D' s' N' C => C.sc (fun r a b => sc r (by omega)) (by omega) (Int.le_refl _))
  rw [q2]
  show (if 140 = 140 ∧ 0 = Int.toNat (0 : Int) then x else hi h1 140 0) = x
  rw [if_pos ⟨rfl, rfl⟩]
theorem L_meanWait (C : CP h D s N) (G : CD D s N) (o : OS h) (hN8 : N ≤ 99999999) (hN : N ≤ N') (H : ∀ (kr : Int) h', kr = tL D → (tL D = 0 → hi h' 140 0 = mwv s) → CG h h' → CP h' D s N' → Q kr h') : RUN GQ (d + 8) m_L_meanWait [pA 64, pA 140] h Q X := by
  obtain ⟨B, A, B2, A2, nx, EP, E, C⟩ := C
  have cft := C.2.1
  rw [e_L_meanWait]
  refine WP.of (RUN.mono GQ _) (cuts := []) (n := 400) (v_L_meanWait_0 _ _ _ _ _ _ ?_)
  refine ⟨cft.k, ⟨by decide, by decide⟩, S_X6_meanWait cft G hN8 (fun t => ?_) (fun e9 n9' c9 l9 => ?_)⟩
  · have u9 : CF h h ∧ CP h D s N' := ⟨CF.refl h, B, A, B2, A2, nx, EP, E, C.sc (fun r _ _ => SC.refl h r) (Nat.le_refl _) hN⟩
    exact W_outD o u9.1 (fun h2 g2 i2 k2 => H 0 h2 t.symm (fun _ => i2) g2 (k2 _ _ _ u9.2))
  · have u9 := C.up (n' := n9') l9 hN
    exact ⟨fun c1 => H 1 _ (by omega) (fun z => absurd z (by omega)) u9.1.cg u9.2, fun c1 => absurd c9.2 c1⟩
theorem L_handledShare (C : CP h D s N) (G : CD D s N) (o : OS h) (hN8 : N ≤ 99999999) (hN : N ≤ N') (H : ∀ (kr : Int) h', kr = tL D → (tL D = 0 → hi h' 140 0 = ff2d (hsv s)) → CG h h' → CP h' D s N' → Q kr h') : RUN GQ (d + 8) m_L_handledShare [pA 64, pA 140] h Q X := by
  obtain ⟨B, A, B2, A2, nx, EP, E, C⟩ := C
  have cft := C.2.1
  rw [e_L_handledShare]
  refine WP.of (RUN.mono GQ _) (cuts := []) (n := 400) (v_L_handledShare_0 _ _ _ _ _ _ ?_)
  refine ⟨cft.k, ⟨by decide, by decide⟩, S_X6_handledShare cft G hN8 (fun t => ?_) (fun e9 n9' c9 l9 => ?_)⟩
  · have u9 : CF h h ∧ CP h D s N' := ⟨CF.refl h, B, A, B2, A2, nx, EP, E, C.sc (fun r _ _ => SC.refl h r) (Nat.le_refl _) hN⟩
    exact ⟨f2_ok (hsv_ok G hN8 (tL_n t)), W_outD o u9.1 (fun h2 g2 i2 k2 => H 0 h2 t.symm (fun _ => i2) g2 (k2 _ _ _ u9.2))⟩
  · have u9 := C.up (n' := n9') l9 hN
    exact ⟨fun c1 => H 1 _ (by omega) (fun z => absurd z (by omega)) u9.1.cg u9.2, fun c1 => absurd c9.2 c1⟩
theorem fdcmp_ir (x y : Int) (o : CmpOp) : InR (fdcmp x y o) := toInt_InR _
end SHC
section SHL
variable {L : Nat} {xs : Nat → Int32} {i N : Int} {h : PH} {c s : Nat} {z6 z7 z8 : Option PV}
set_option maxRecDepth 100000 in
theorem cl_meanWait (Z : LT h L xs N) (hi0 : 0 ≤ i) (hL : i + 6 ≤ L) (hN : N + 97000 ≤ 99999999) (hc : c + 24 ≤ 601024) (hs : s + 1700 ≤ 7293034) (HK : HKL L xs i N c s) : WPL 1524 [some (pA 1), some (pA 64), some (pA 119), some (pA 139), some (pA 140), some (pI i), z6, z7, z8] [] h c s := by
  obtain ⟨D, sr, t, C, G, M, o, sp⟩ := Z
  refine WP.of (RUN.mono GQ _) (cuts := [28, 1524]) (n := 400) (v_L_law_1524 _ _ _ _ _ _ _ _ _ _ _ _ ?_)
  refine ⟨⟨hc, hs⟩, ?_⟩
  refine L_meanWait C G o (by omega) (N' := N + 97000) (by omega) (fun kr h1 e1 v g1 C1 => ?_)
  have o1 := o.cg g1
  have sp1 := sp.cg g1
  have M1 := M.cg g1
  refine ⟨M1.k0, ?_⟩
  refine S_X7_meanWait M1 G.W (fun x2 h2 v2 M2 => ⟨M2.k0, S_X7_thrown M2 (fun x3 e3 => ?_)⟩)
  have i2 : hi h2 140 (Int.toNat (0 : Int)) = hi h1 140 0 := M2.sa.2.2.2 140 0 (by omega)
  have o2 := M2.sa.os o1
  have k := HK (some (pI kr)) (some (pW 4 x2)) none h2 (c + 24) (s + 1700) (LT.mk C1 (G.mono (by omega) (by omega)) M2 o1 sp1) (by omega) (by omega)
  refine ⟨by rw [e3]; exact tL_ir D, by rw [e1]; exact tL_ir D, fun _ => ⟨by rw [e1]; exact tL_ir D, fun tt => ?_, fun _ => k⟩, fun y => absurd (e3.trans e1.symm) y⟩
  have tz := e1.symm.trans tt
  have a1 : hi h2 140 (Int.toNat (0 : Int)) = mwv sr := i2.trans (v tz)
  have a2 : x2 = mwv sr := v2 tz
  rw [a1]
  have hl0 : (0 ≤ (0 : Int) ∧ (0 : Int) < (hl h2 140 : Int)) := ⟨by decide, by rw [o2.2.2]; decide⟩
  refine ⟨o2.2.1, hl0, fdcmp_ir _ _ _, fun _ => k, fun y => ⟨o2.2.1, hl0, o2.2.1, hl0, fdcmp_ir _ _ _, fun z => ?_, fun _ => ⟨fdcmp_ir _ _ _, fun z => ?_, fun _ => k⟩⟩⟩
  · rw [a2] at y
    exact absurd z y
  · rw [a2] at y z
    exact absurd z y
set_option maxRecDepth 100000 in
theorem cl_handledShare (Z : LT h L xs N) (hi0 : 0 ≤ i) (hL : i + 6 ≤ L) (hN : N + 97000 ≤ 99999999) (hc : c + 24 ≤ 601024) (hs : s + 1700 ≤ 7293034) (HK : HKL L xs i N c s) : WPL 1589 [some (pA 1), some (pA 64), some (pA 119), some (pA 139), some (pA 140), some (pI i), z6, z7, z8] [] h c s := by
  obtain ⟨D, sr, t, C, G, M, o, sp⟩ := Z
  refine WP.of (RUN.mono GQ _) (cuts := [28, 1589]) (n := 400) (v_L_law_1589 _ _ _ _ _ _ _ _ _ _ _ _ ?_)
  refine ⟨⟨hc, hs⟩, ?_⟩
  refine L_handledShare C G o (by omega) (N' := N + 97000) (by omega) (fun kr h1 e1 v g1 C1 => ?_)
  have o1 := o.cg g1
  have sp1 := sp.cg g1
  have M1 := M.cg g1
  refine ⟨M1.k0, ?_⟩
  refine S_X7_handledShare M1 G.W (fun x2 h2 v2 M2 => ⟨M2.k0, S_X7_thrown M2 (fun x3 e3 => ?_)⟩)
  have i2 : hi h2 140 (Int.toNat (0 : Int)) = hi h1 140 0 := M2.sa.2.2.2 140 0 (by omega)
  have o2 := M2.sa.os o1
  have k := HK (some (pI kr)) (some (pW 3 x2)) z8 h2 (c + 24) (s + 1700) (LT.mk C1 (G.mono (by omega) (by omega)) M2 o1 sp1) (by omega) (by omega)
  refine ⟨by rw [e3]; exact tL_ir D, by rw [e1]; exact tL_ir D, fun _ => ⟨by rw [e1]; exact tL_ir D, fun tt => ?_, fun _ => k⟩, fun y => absurd (e3.trans e1.symm) y⟩
  have tz := e1.symm.trans tt
  have a1 : hi h2 140 (Int.toNat (0 : Int)) = ff2d (hsv sr) := i2.trans (v tz)
  have a2 : x2 = hsv sr := v2 tz
  have ok := f2_ok (hsv_ok G (by omega) (tL_n tz))
  have cs := cmp_self ok
  have hl0 : (0 ≤ (0 : Int) ∧ (0 : Int) < (hl h2 140 : Int)) := ⟨by decide, by rw [o2.2.2]; decide⟩
  rw [a1, a2]
  exact ⟨o2.2.1, hl0, ok, fdcmp_ir _ _ _, fun _ => by rw [a2] at k; exact k, fun y => absurd cs y⟩
end SHL
