/-! the class loads -/
section LDV
variable {call : PC} {mc ms fr : Nat} {Q : Int → PH → Prop} {X : Nat → PH → Prop} {K : PK}
set_option maxRecDepth 100000 in
theorem v_X6_load_0 (a0 : Nat) (i1 : Int) (z2 : Option PV) (h : PH) (c s : Nat) (H : InR i1 ∧ (i1 < 0 →
 K 17 [some (pA a0), some (pI i1), z2] [pI 0] h c s) ∧
(0 ≤ i1 →
 hk h a0 = 7 ∧ InR i1 ∧ InR (hi h a0 1) ∧ ((hi h a0 1) < i1 →
 K 17 [some (pA a0), some (pI i1), z2] [pI 0] h c s) ∧
(i1 ≤ (hi h a0 1) →
 K 17 [some (pA a0), some (pI i1), z2] [pI 1] h c s))) : wpc k_X6_load [] call mc ms fr Q X [17] K 400 (pto 0 k_X6_load) [some (pA a0), some (pI i1), z2] [] h c s :=
  H

set_option maxRecDepth 100000 in
theorem v_X6_load_17 (a0 : Nat) (i1 : Int) (z2 : Option PV) (s0 : Int) (h : PH) (c s : Nat) (H : (c + 1 ≤ mc ∧ s + 6 ≤ ms) ∧ call m_X6_needIndex [pI s0] h (fun _ h1 =>
 ((c + 1) + 1 ≤ mc ∧ (s + 6) + 11 ≤ ms) ∧ ∀ h2, h2 = hnew h1 5 11 →
 hk h2 a0 = 7 ∧ hk h2 a0 = 7 ∧ hk h2 a0 = 7 ∧ hk h2 (hn h1) = 5 ∧ call m_X4_init [pA (hn h1), pA (hr h2 a0 0), pI i1, pA (hr h2 a0 7), pA (hr h2 a0 8)] h2 (fun _ h3 =>
 hk h3 (hn h1) = 5 ∧ call m_X4_readText [pA (hn h1)] h3 (fun _ h4 =>
 hk h4 a0 = 7 ∧ ∀ h5, h5 = hsi h4 a0 1 0 →
 hk h5 (hn h1) = 5 ∧ hk h5 a0 = 7 ∧ ∀ h6, h6 = hsi h5 a0 2 (hi h5 (hn h1) 9) →
 hk h6 (hn h1) = 5 ∧ hk h6 a0 = 7 ∧ ∀ h7, h7 = hsi h6 a0 3 (hi h6 (hn h1) 10) →
 hk h7 a0 = 7 ∧ InR (hi h7 a0 2) ∧ ((hi h7 a0 2) = 0 →
 (((c + 1) + 1) + 1 ≤ mc ∧ ((s + 6) + 11) + 6 ≤ ms) ∧ call m_X6_needArgument [pI 1] h7 (fun _ h8 =>
 hk h8 a0 = 7 ∧ call m_X6_takeSpare [pA a0] h8 (fun _ h9 =>
 hk h9 a0 = 7 ∧ hk h9 (hr h9 a0 5) = 6 ∧ hk h9 (hr h9 (hr h9 a0 5) 1) = 3 ∧ Q (hi h9 (hr h9 (hr h9 a0 5) 1) 2) h9) X) X) ∧
((hi h7 a0 2) ≠ 0 →
 (((c + 1) + 1) + 1 ≤ mc ∧ ((s + 6) + 11) + 6 ≤ ms) ∧ call m_X6_needArgument [pI 0] h7 (fun _ h10 =>
 hk h10 a0 = 7 ∧ call m_X6_takeSpare [pA a0] h10 (fun _ h11 =>
 hk h11 a0 = 7 ∧ hk h11 (hr h11 a0 5) = 6 ∧ hk h11 (hr h11 (hr h11 a0 5) 1) = 3 ∧ Q (hi h11 (hr h11 (hr h11 a0 5) 1) 2) h11) X) X)) X) X) X) : wpc k_X6_load [] call mc ms fr Q X [17] K 400 (pto 17 k_X6_load) [some (pA a0), some (pI i1), z2] [pI s0] h c s :=
  H

end LDV
theorem rdF_eq (D : Nat → Int → Int) (n : Int) : rdF (rdm 6 0 (rdz 48 0 (rd0 D n))) = rdD D n := by
  unfold rdF rdD rdH rdA
  (try rfl)
/-- what a load has done to the heap, before the spare pair is taken -/
def LDX (h h5 : PH) (B2 : Nat) (R : Nat → Int → Int) (s : Int → Int) : Prop :=
  (∀ r, r < hn h → r ≠ 64 → ¬ (B2 ≤ r ∧ r < B2 + 24) → SC h h5 r) ∧ (h5.2.1 64 = h.2.1 64 ∧ (∀ k, hr h5 64 k = hr h 64 k) ∧ (∀ k, k ≠ 1 → k ≠ 2 → k ≠ 3 → hi h5 64 k = hi h 64 k)) ∧ (hi h5 64 1 = 0 ∧ hi h5 64 2 = R 0 25 ∧ hi h5 64 3 = R 0 26) ∧ hn h ≤ hn h5 ∧
  ∃ EP E f1 f2 K1 K2 n8, Px B2 h5 h5 EP ∧ (Hx (B2 + 10) h5 h5 E ∧ E 6 0 = 13 ∧ E 9 0 = 4) ∧ NMs EP f1 f2 K1 K2 ∧ (R 0 25 = 0 → GD R EP E f1 f2 K1 K2 s n8)
theorem S_X6_load {d B A B2 : Nat} {h : PH} {EP E EP2 E2 D : Nat → Int → Int} {s : Int → Int} {n : Int} {Q : Int → PH → Prop} {X : Nat → PH → Prop} (T : FT h B A EP E D s) (pl : B2 = 66 ∨ B2 = 90) (r7 : hr h 64 7 = B2) (r8 : hr h 64 8 = B2 + 10) (L2 : Px B2 h h EP2) (M2 : Hx (B2 + 10) h h E2) (e6 : E2 6 0 = 13) (e9 : E2 9 0 = 4) (F : BFR h D) (hB : BY D) (g1 : NB (D 11)) (g2 : NB (D 12)) (hki : RIk D) (h17 : 0 ≤ D 0 17 ∧ D 0 17 ≤ 700) (W : WRD h) (G : SG h) (r13 : hr h 64 13 = 116) (k16 : hk h 116 = 22 ∧ hl h 116 = 2) (sw : s (-1) = -1) (i2 : InR (s (-2))) (n141 : 141 ≤ hn h) (hvn : InR n)
    (H : 0 ≤ n ∧ n ≤ D 0 17 → rdD (dst D 0 17 0) n 0 25 = 0 → ∀ h5 h', LDX h h5 B2 (rdD (dst D 0 17 0) n) s → TSP h5 h' B A B2 (B2 + 10) → Q (rdD (dst D 0 17 0) n 0 32) h')
    (HX1 : ¬ (0 ≤ n ∧ n ≤ D 0 17) → ∀ n', hn h ≤ n' → X 2 (hup h n'))
    (HX2 : 0 ≤ n ∧ n ≤ D 0 17 → rdD (dst D 0 17 0) n 0 25 ≠ 0 → ∀ h5 n', LDX h h5 B2 (rdD (dst D 0 17 0) n) s → hn h5 ≤ n' → X 1 (hup h5 n')) : RUN GQ (d + 12) m_X6_load [pA 64, pI n] h Q X := by
  have k7 := T.k
  have t17 : ∀ z : Int, (z = 0 ∨ z = 1) → (z ≠ 0 ↔ 0 ≤ n ∧ n ≤ D 0 17) → WP k_X6_load [] (RUN GQ (d + 11)) (bdc 10).1 (bdc 10).2 (d + 12) Q X 17 [some (pA 64), some (pI n), none] [pI z] h 0 0 := by
    intro z hz hzi
    refine WP.of (RUN.mono GQ _) (cuts := [17]) (n := 400) (v_X6_load_17 _ _ _ _ _ _ _ ?_)
    refine ⟨⟨by decide, by decide⟩, S_X6_needIndex hz (fun c => ?_) (fun c n' q => HX1 (fun y => c (hzi.mpr y)) n' q)⟩
    have hn' := hzi.mp c
    refine ⟨⟨by decide, by decide⟩, fun h2 q2 => ?_⟩
    have A1 : AL h h2 (hn h) 1 kS lS (fun _ _ => 0) (fun _ _ => 0) := by rw [q2]; exact AL.begin h 5 11 kS lS rfl rfl
    have s64 := A1.2.1 64 (by omega)
    rw [(s64.2 0).2.trans T.r0, (s64.2 7).2.trans r7, (s64.2 8).2.trans r8, s64.k]
    refine ⟨k7, k7, k7, A1.k (j := 0) (by decide), S_X4_init A1 (by omega) (by omega) ⟨F.1, F.2.1⟩ ⟨hn'.1, by omega⟩ (fun h3 A3 => ?_)⟩
    refine ⟨A3.k (j := 0) (by decide), ?_⟩
    obtain ⟨p, hp⟩ : ∃ p, p = hn h := ⟨_, rfl⟩
    rw [← hp] at A3 ⊢
    have S3 : Sx p h3 h3 (dst (dst (fun _ _ => 0) 0 10 (-1)) 0 1 n) := A3.bx (RF := []) (by omega) (fun q hq => nomatch hq)
    have V3 := fun f => (A3.2.2 0 (by decide)).2.2 f
    have sc3 : ∀ r, r < hn h → SC h h3 r := fun r a => A3.2.1 r (by omega)
    have RZA := rz_all (D := dst D 0 17 0) (n := n) ⟨hn'.1, by omega⟩ (hB.of (dst_row (by decide))) (by rw [dst_row (by decide)]; exact g1) (by rw [dst_row (by decide)]; exact g2) (hki.of (dst_row (by decide)))
    have RA := rdD_all (D := dst D 0 17 0) (n := n) ⟨hn'.1, by omega⟩ (hB.of (dst_row (by decide))) (by rw [dst_row (by decide)]; exact g1) (by rw [dst_row (by decide)]; exact g2) (hki.of (dst_row (by decide)))
    have eF := rdF_eq (dst D 0 17 0) n
    have A10 : rdm 6 0 (rdz 48 0 (rd0 (dst D 0 17 0) n)) 10 = D 10 := by
      rw [rdm_row (by decide), rdz_row (by decide) (by decide)]
      unfold rd0
      rw [dst_row (by decide), dst_row (by decide), dst_row (by decide), dst_row (by decide), dst_row (by decide), dst_row (by decide), dst_row (by decide), dst_row (by decide), dst_row (by decide)]
    have A20 : rdm 6 0 (rdz 48 0 (rd0 (dst D 0 17 0) n)) 0 20 = n := by
      rw [rdm_row (by decide), rdz_row (by decide) (by decide)]
      unfold rd0
      rw [dst_ne (by decide), dst_ne (by decide), dst_ne (by decide), dst_ne (by decide), dst_ne (by decide), dst_ne (by decide), dst_ne (by decide), dst_eq]
    obtain ⟨A0, hA0⟩ : ∃ Z, Z = rdm 6 0 (rdz 48 0 (rd0 (dst D 0 17 0) n)) := ⟨_, rfl⟩
    rw [← hA0] at RZA eF A10 A20
    obtain ⟨R, hR⟩ : ∃ Z, Z = rdD (dst D 0 17 0) n := ⟨_, rfl⟩
    rw [← hR] at H HX2 RA eF
    have F3 : BFR h3 D := ⟨(sc3 65 (by omega)).k.trans F.1, (sc3 65 (by omega)).l.trans F.2.1, fun e x y => (((sc3 65 (by omega)).2 _).1).trans (F.2.2 e x y)⟩
    refine S_X4_readText RZA A10 A20 (by omega) (by omega) (Or.inr (by omega)) S3 (L2.sc (fun r a b => sc3 r (by omega)) rP_lt) (M2.sc (fun r a b => sc3 r (by omega)) rH_lt) e6 e9 F3 ((V3 0).trans rfl) ((V3 2).trans rfl) ((V3 3).trans rfl) (W.sc (fun r a _ => sc3 r (by omega))) (G.sc (fun r a _ => sc3 r (by omega)))
      (by rw [dst_eq]) (by rw [dst_ne (by decide), dst_ne (by decide)]) (by rw [dst_ne (by decide), dst_ne (by decide)]) (by rw [dst_ne (by decide), dst_ne (by decide)]) (by rw [dst_ne (by decide), dst_eq]) ⟨hn'.1, by omega⟩ sw i2 (fun h4 Z0 => ?_)
    rw [eF] at Z0
    obtain ⟨ES, EPn, En, f1, f2, K1, K2, Z, GG⟩ := Z0
    have sc4 : ∀ r, r < hn h → ¬ (B2 ≤ r ∧ r < B2 + 24) → SC h h4 r := fun r a b => (sc3 r a).trans (Z.fr.2 r (by omega) b)
    have s4 := sc4 64 (by omega) (by omega)
    have k4 : hk h4 64 = 7 := s4.k.trans k7
    refine ⟨k4, fun h5 q5 => ?_⟩
    have k5 : hk h5 64 = 7 := by rw [q5]; exact k4
    have kp5 : hk h5 p = 5 := by rw [q5]; exact Z.k5
    have i59 : hi h5 p 9 = R 0 25 := by
      rw [q5, hi_hsi, if_neg (by omega)]
      exact (Z.S.f9 0 (by decide)).trans Z.P.2.2.2.2.2.1
    rw [i59]
    refine ⟨kp5, k5, fun h6 q6 => ?_⟩
    have k6 : hk h6 64 = 7 := by rw [q6]; exact k5
    have kp6 : hk h6 p = 5 := by rw [q6]; exact kp5
    have i6A : hi h6 p 10 = R 0 26 := by
      rw [q6, hi_hsi, if_neg (by omega), q5, hi_hsi, if_neg (by omega)]
      exact (Z.S.f10 0 (by decide)).trans Z.P.2.2.2.2.2.2
    rw [i6A]
    refine ⟨kp6, k6, fun h7 q7 => ?_⟩
    have k7' : hk h7 64 = 7 := by rw [q7]; exact k6
    have I7 : ∀ r k, hi h7 r k = if r = 64 ∧ k = 3 then R 0 26 else if r = 64 ∧ k = 2 then R 0 25 else if r = 64 ∧ k = 1 then 0 else hi h4 r k := fun r k => by rw [q7, q6, q5]; rfl
    have R7 : ∀ r k, hr h7 r k = hr h4 r k := fun r k => by rw [q7, q6, q5]; rfl
    have t7 : h7.2.1 = h4.2.1 := by rw [q7, q6, q5]; rfl
    have n7 : hn h7 = hn h4 := by rw [q7, q6, q5]; rfl
    have sc7 : ∀ r, r ≠ 64 → SC h4 h7 r := fun r a => ⟨by rw [t7], fun k => ⟨by rw [I7, if_neg (by omega), if_neg (by omega), if_neg (by omega)], R7 r k⟩⟩
    have i72 : hi h7 64 2 = R 0 25 := by rw [I7, if_neg (by omega), if_pos (by omega)]
    have e25 := RA.1.e25
    have n4 : hn h4 = p + 1 := Z.fr.1.trans A3.n
    have LX : LDX h h7 B2 R s := by
      refine ⟨fun r a b c => (sc4 r a c).trans (sc7 r b), ⟨by rw [t7]; exact s4.1, fun k => (R7 64 k).trans (s4.2 k).2, fun k a b c => ?_⟩, ⟨?_, i72, ?_⟩, by omega, EPn, En, f1, f2, K1, K2, ES 0 8, Z.L.sc (fun r a b => sc7 r (by omega)) rP_lt, ⟨Z.M.sc (fun r a b => sc7 r (by omega)) rH_lt, Z.e6, Z.e9⟩, Z.N, GG⟩
      · rw [I7, if_neg (by omega), if_neg (by omega), if_neg (by omega)]
        exact (s4.2 k).1
      · rw [I7, if_neg (by omega), if_neg (by omega), if_pos (by omega)]
      · rw [I7, if_pos (by omega)]
    rw [i72]
    refine ⟨k7', ir (by omega) (by omega), fun c0 => ?_, fun c0 => ?_⟩
    · refine ⟨⟨by decide, by decide⟩, S_X6_needArgument (Or.inr rfl) (fun _ => ⟨k7', ?_⟩) (fun c => absurd (by decide) c)⟩
      have g7 : ∀ k, hr h7 64 k = hr h 64 k := LX.2.1.2.1
      have kk : hk h7 116 = 22 ∧ hl h7 116 = 2 := by
        have q := LX.1 116 (by omega) (by omega) (by omega)
        exact ⟨q.k.trans k16.1, q.l.trans k16.2⟩
      refine S_X6_takeSpare k7' ((g7 5).trans T.r5) ((g7 6).trans T.r6) ((g7 7).trans r7) ((g7 8).trans r8) ((g7 13).trans r13) kk (fun h9 P9 => ?_)
      obtain ⟨p1, p2, p3, p4, p5, p6, p7, p8⟩ := id P9
      have L7 : Px B2 h7 h7 EPn := Z.L.sc (fun r a b => sc7 r (by omega)) rP_lt
      have kA : hk h9 B2 = 6 := (p1 B2 (by omega) (by omega)).k.trans (L7.k 0 (by decide) rfl)
      have rA : hr h9 B2 1 = B2 + 4 := ((p1 B2 (by omega) (by omega)).2 1).2.trans (L7.r 0 1 4 (by decide))
      have kB : hk h9 (B2 + 4) = 3 := (p1 (B2 + 4) (by omega) (by omega)).k.trans (L7.k 4 (by decide) rfl)
      have iB : hi h9 (B2 + 4) 2 = R 0 32 := by
        refine ((p1 (B2 + 4) (by omega) (by omega)).2 2).1.trans ((L7.f2 4 (by decide)).trans (Z.N.2.1.trans (GG c0).1.2.2))
      have k9 : hk h9 64 = 7 := by
        unfold hk
        rw [p3]
        exact k7'
      rw [p4.1, rA, iB]
      exact ⟨k9, kA, kB, H hn' c0 h7 h9 LX P9⟩
    · exact ⟨⟨by decide, by decide⟩, S_X6_needArgument (Or.inl rfl) (fun c => absurd rfl c) (fun _ n' q => HX2 hn' c0 h7 n' LX q)⟩
  rw [e_X6_load]
  refine WP.of (RUN.mono GQ _) (cuts := [17]) (n := 400) (v_X6_load_0 _ _ _ _ _ _ ?_)
  have f1 := T.f1
  rw [f1]
  refine ⟨hvn, fun c1 => t17 0 (Or.inl rfl) ⟨fun c => absurd rfl c, fun c => by omega⟩, fun c1 => ⟨k7, hvn, ir (by omega) (by omega), fun c2 => t17 0 (Or.inl rfl) ⟨fun c => absurd rfl c, fun c => by omega⟩, fun c2 => t17 1 (Or.inr rfl) ⟨fun _ => ⟨c1, c2⟩, fun _ => by omega⟩⟩⟩
