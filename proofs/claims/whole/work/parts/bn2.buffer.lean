/-! the class's buffer: append, find -/
theorem bi2b_rng {x : Int} (h : InR x) : -128 ≤ bi2b x ∧ bi2b x ≤ 127 := by
  rw [← sgb_band h, band_255 h]
  unfold sgb
  split <;> omega
/-- only the buffer and its size are changed -/
def BFX (h h' : PH) (v : Int) : Prop := (∀ r, r ≠ 64 → r ≠ 65 → SC h h' r) ∧ hn h' = hn h ∧ h'.2.1 = h.2.1 ∧ (∀ r k, hr h' r k = hr h r k) ∧ (∀ k, k ≠ 1 → hi h' 64 k = hi h 64 k) ∧ hi h' 64 1 = v
theorem BFX.trans {h1 h2 h3 : PH} {v w : Int} (a : BFX h1 h2 v) (b : BFX h2 h3 w) : BFX h1 h3 w := ⟨fun r x y => (a.1 r x y).trans (b.1 r x y), b.2.1.trans a.2.1, b.2.2.1.trans a.2.2.1, fun r k => (b.2.2.2.1 r k).trans (a.2.2.2.1 r k), fun k x => (b.2.2.2.2.1 k x).trans (a.2.2.2.2.1 k x), b.2.2.2.2.2⟩
theorem BFX.k {h h' : PH} {v : Int} (a : BFX h h' v) (r : Nat) : hk h' r = hk h r := by unfold hk; rw [a.2.2.1]
theorem BFX.l {h h' : PH} {v : Int} (a : BFX h h' v) (r : Nat) : hl h' r = hl h r := by unfold hl; rw [a.2.2.1]
def AWC (h h' : PH) (g : Int) (n : Nat) (w : Int) : Prop := ∀ k : Int, 0 ≤ k → hi h' 65 k.toNat = if g ≤ k ∧ k < g + n then bi2b (bshr w (8 * n - 8 - 8 * (k - g))) else hi h 65 k.toNat
section AW
variable {call : PC} {mc ms fr : Nat} {Q : Int → PH → Prop} {X : Nat → PH → Prop} {K : PK}
set_option maxRecDepth 100000 in
theorem v_X6_appendWord_0 (a0 : Nat) (i1 : Int) (z2 : Option PV) (h : PH) (c s : Nat) (H : K 3 [some (pA a0), some (pI i1), some (pI 24)] [] h c s) : wpc k_X6_appendWord [] call mc ms fr Q X [3] K 400 (pto 0 k_X6_appendWord) [some (pA a0), some (pI i1), z2] [] h c s :=
  H

set_option maxRecDepth 100000 in
theorem v_X6_appendWord_3 (a0 : Nat) (i1 : Int) (i2 : Int) (h : PH) (c s : Nat) (H : InR i2 ∧ (i2 < 0 →
 Q 0 h) ∧
(0 ≤ i2 →
 hk h a0 = 7 ∧ InR (hi h a0 1) ∧ InR 700 ∧ ((hi h a0 1) < 700 →
 hk h a0 = 7 ∧ hk h a0 = 7 ∧ hk h (hr h a0 0) = 21 ∧ (0 ≤ (hi h a0 1) ∧ (hi h a0 1) < (hl h (hr h a0 0) : Int)) ∧ ∀ h1, h1 = hsi h (hr h a0 0) (Int.toNat ((hi h a0 1))) (bi2b (bi2b (bshr i1 i2))) →
 hk h1 a0 = 7 ∧ hk h1 a0 = 7 ∧ ∀ h2, h2 = hsi h1 a0 1 ((hi h1 a0 1) + 1) →
 K 3 [some (pA a0), some (pI i1), some (pI (i2 + (-8)))] [] h2 c s) ∧
(700 ≤ (hi h a0 1) →
 Q 0 h))) : wpc k_X6_appendWord [] call mc ms fr Q X [3] K 400 (pto 3 k_X6_appendWord) [some (pA a0), some (pI i1), some (pI i2)] [] h c s :=
  H

set_option maxRecDepth 100000 in
theorem v_X6_append_0 (a0 : Nat) (i1 : Int) (i2 : Int) (i3 : Int) (i4 : Int) (i5 : Int) (h : PH) (c s : Nat) (H : hk h a0 = 7 ∧ InR (hi h a0 1) ∧ InR 680 ∧ (680 < (hi h a0 1) →
 Q ((-1)) h) ∧
((hi h a0 1) ≤ 680 →
 hk h a0 = 7 ∧ call m_X6_appendWord [pA a0, pI i1] h (fun _ h1 =>
 hk h1 a0 = 7 ∧ call m_X6_appendWord [pA a0, pI i2] h1 (fun _ h2 =>
 hk h2 a0 = 7 ∧ call m_X6_appendWord [pA a0, pI i3] h2 (fun _ h3 =>
 hk h3 a0 = 7 ∧ call m_X6_appendWord [pA a0, pI i4] h3 (fun _ h4 =>
 hk h4 a0 = 7 ∧ call m_X6_appendWord [pA a0, pI i5] h4 (fun _ h5 =>
 hk h5 a0 = 7 ∧ Q (hi h5 a0 1) h5) X) X) X) X) X)) : wpc k_X6_append [] call mc ms fr Q X [] K 400 (pto 0 k_X6_append) [some (pA a0), some (pI i1), some (pI i2), some (pI i3), some (pI i4), some (pI i5)] [] h c s :=
  H

set_option maxRecDepth 100000 in
theorem v_X6_find_0 (a0 : Nat) (i1 : Int) (i2 : Int) (z3 : Option PV) (h : PH) (c s : Nat) (H : hk h a0 = 7 ∧ (c + 1 ≤ mc ∧ s + 6 ≤ ms) ∧ call m_X6_needHall [pA a0] h (fun _ h1 =>
 InR i2 ∧ (i2 < 0 →
 ((c + 1) + 1 ≤ mc ∧ (s + 6) + 6 ≤ ms) ∧ call m_X6_needIndex [pI 0] h1 (fun _ h2 =>
 hk h2 a0 = 7 ∧ ∀ h3, h3 = hsi h2 a0 1 0 →
 InR i1 ∧ (i1 = 0 →
 hk h3 a0 = 7 ∧ hk h3 (hr h3 a0 5) = 6 ∧ hk h3 a0 = 7 ∧ hk h3 (hr h3 (hr h3 a0 5) 1) = 3 ∧ call m_X2_placeOf [pA (hr h3 (hr h3 a0 5) 1), pA (hr h3 a0 0), pI 0, pI i2] h3 (fun x4 h4 =>
 Q x4 h4) X) ∧
(i1 ≠ 0 →
 hk h3 a0 = 7 ∧ hk h3 (hr h3 a0 5) = 6 ∧ hk h3 a0 = 7 ∧ hk h3 (hr h3 (hr h3 a0 5) 0) = 3 ∧ call m_X2_placeOf [pA (hr h3 (hr h3 a0 5) 0), pA (hr h3 a0 0), pI 0, pI i2] h3 (fun x5 h5 =>
 Q x5 h5) X)) X) ∧
(0 ≤ i2 →
 hk h1 a0 = 7 ∧ InR i2 ∧ InR (hi h1 a0 1) ∧ ((hi h1 a0 1) < i2 →
 ((c + 1) + 1 ≤ mc ∧ (s + 6) + 6 ≤ ms) ∧ call m_X6_needIndex [pI 0] h1 (fun _ h6 =>
 hk h6 a0 = 7 ∧ ∀ h7, h7 = hsi h6 a0 1 0 →
 InR i1 ∧ (i1 = 0 →
 hk h7 a0 = 7 ∧ hk h7 (hr h7 a0 5) = 6 ∧ hk h7 a0 = 7 ∧ hk h7 (hr h7 (hr h7 a0 5) 1) = 3 ∧ call m_X2_placeOf [pA (hr h7 (hr h7 a0 5) 1), pA (hr h7 a0 0), pI 0, pI i2] h7 (fun x8 h8 =>
 Q x8 h8) X) ∧
(i1 ≠ 0 →
 hk h7 a0 = 7 ∧ hk h7 (hr h7 a0 5) = 6 ∧ hk h7 a0 = 7 ∧ hk h7 (hr h7 (hr h7 a0 5) 0) = 3 ∧ call m_X2_placeOf [pA (hr h7 (hr h7 a0 5) 0), pA (hr h7 a0 0), pI 0, pI i2] h7 (fun x9 h9 =>
 Q x9 h9) X)) X) ∧
(i2 ≤ (hi h1 a0 1) →
 ((c + 1) + 1 ≤ mc ∧ (s + 6) + 6 ≤ ms) ∧ call m_X6_needIndex [pI 1] h1 (fun _ h10 =>
 hk h10 a0 = 7 ∧ ∀ h11, h11 = hsi h10 a0 1 0 →
 InR i1 ∧ (i1 = 0 →
 hk h11 a0 = 7 ∧ hk h11 (hr h11 a0 5) = 6 ∧ hk h11 a0 = 7 ∧ hk h11 (hr h11 (hr h11 a0 5) 1) = 3 ∧ call m_X2_placeOf [pA (hr h11 (hr h11 a0 5) 1), pA (hr h11 a0 0), pI 0, pI i2] h11 (fun x12 h12 =>
 Q x12 h12) X) ∧
(i1 ≠ 0 →
 hk h11 a0 = 7 ∧ hk h11 (hr h11 a0 5) = 6 ∧ hk h11 a0 = 7 ∧ hk h11 (hr h11 (hr h11 a0 5) 0) = 3 ∧ call m_X2_placeOf [pA (hr h11 (hr h11 a0 5) 0), pA (hr h11 a0 0), pI 0, pI i2] h11 (fun x13 h13 =>
 Q x13 h13) X)) X))) X) : wpc k_X6_find [] call mc ms fr Q X [] K 400 (pto 0 k_X6_find) [some (pA a0), some (pI i1), some (pI i2), z3] [] h c s :=
  H

end AW
theorem L_X6_appendWord_3 {d : Nat} {w : Int} {Q : Int → PH → Prop} {X : Nat → PH → Prop} : ∀ (n : Nat) (sh g : Int) (h : PH), hk h 64 = 7 → hr h 64 0 = 65 → hk h 65 = 21 → hl h 65 = 700 → hi h 64 1 = g → 0 ≤ g → g + n ≤ 700 → sh = 8 * n - 8 → n ≤ 4 → (∀ h', BFX h h' (g + n) → AWC h h' g n w → Q 0 h') → WP k_X6_appendWord [] (RUN GQ (d + 0)) 0 0 (d + 1) Q X 3 [some (pA 64), some (pI w), some (pI sh)] [] h 0 0 := by
  intro n
  induction n with
  | zero =>
    intro sh g h k64 r65 k65 l65 f1 g0 g7 es n4 H
    refine WP.of (RUN.mono GQ _) (cuts := [3]) (n := 400) (v_X6_appendWord_3 _ _ _ _ _ _ ?_)
    refine ⟨ir (by omega) (by omega), fun _ => ?_, fun c => absurd c (by omega)⟩
    exact H h ⟨fun r _ _ => SC.refl _ r, rfl, rfl, fun _ _ => rfl, fun _ _ => rfl, by omega⟩ (fun k _ => by rw [if_neg (by omega)])
  | succ n ih =>
    intro sh g h k64 r65 k65 l65 f1 g0 g7 es n4 H
    refine WP.of (RUN.mono GQ _) (cuts := [3]) (n := 400) (v_X6_appendWord_3 _ _ _ _ _ _ ?_)
    refine ⟨ir (by omega) (by omega), fun c => absurd c (by omega), fun _ => ?_⟩
    rw [f1, r65]
    refine ⟨k64, ir (by omega) (by omega), ir (by omega) (by omega), fun _ => ?_, fun c => absurd c (by omega)⟩
    refine ⟨k64, k64, k65, ⟨g0, by rw [l65]; omega⟩, fun h1 q1 => ?_⟩
    have e1 : hi h1 64 1 = g := by rw [q1, hi_hsi, if_neg (by omega)]; exact f1
    rw [e1]
    refine ⟨by rw [q1]; exact k64, by rw [q1]; exact k64, fun h2 q2 => ?_⟩
    have bb : bi2b (bi2b (bshr w sh)) = bi2b (bshr w sh) := bi2b_id (bi2b_rng (bshr_InR _ _))
    rw [bb] at q1
    have S2 : ∀ r, r ≠ 64 → r ≠ 65 → SC h h2 r := fun r x y => by rw [q2, q1]; exact ⟨rfl, fun k => ⟨by rw [hi_hsi, if_neg (by omega), hi_hsi, if_neg (by omega)], rfl⟩⟩
    have K2 : ∀ k, k ≠ 1 → hi h2 64 k = hi h 64 k := fun k x => by rw [q2, hi_hsi, if_neg (by omega), q1, hi_hsi, if_neg (by omega)]
    have C2 : ∀ k, hi h2 65 k = if k = g.toNat then bi2b (bshr w sh) else hi h 65 k := fun k => by
      rw [q2, hi_hsi, if_neg (by omega), q1, hi_hsi]
      by_cases y : k = g.toNat
      · rw [if_pos ⟨rfl, y⟩, if_pos y]
      · rw [if_neg (fun z => y z.2), if_neg y]
    have t2 : h2.2.1 = h.2.1 := by rw [q2, q1]; rfl
    have n2 : hn h2 = hn h := by rw [q2, q1]; rfl
    have r2 : ∀ r k, hr h2 r k = hr h r k := fun r k => by rw [q2, q1]; rfl
    refine ih _ (g + 1) h2 (by rw [q2, q1]; exact k64) (by rw [r2]; exact r65) (by rw [q2, q1]; exact k65) (by rw [q2, q1]; exact l65) (by rw [q2, hi_hsi, if_pos ⟨rfl, rfl⟩]) (by omega) (by omega) (by omega) (by omega) (fun h' b c => ?_)
    refine H h' ⟨fun r x y => (S2 r x y).trans (b.1 r x y), b.2.1.trans n2, b.2.2.1.trans t2, fun r k => (b.2.2.2.1 r k).trans (r2 r k), fun k x => (b.2.2.2.2.1 k x).trans (K2 k x), by rw [b.2.2.2.2.2]; omega⟩ (fun k k0 => ?_)
    rw [c k k0, C2]
    by_cases c1 : k = g
    · rw [if_neg (by omega), if_pos (by rw [c1]), if_pos (by omega)]
      exact congrArg (fun z => bi2b (bshr w z)) (by omega)
    · by_cases c2 : g + 1 ≤ k ∧ k < g + 1 + n
      · rw [if_pos c2, if_pos (by omega)]
        exact congrArg (fun z => bi2b (bshr w z)) (by omega)
      · rw [if_neg c2, if_neg (by omega), if_neg (by omega)]
theorem S_X6_appendWord {d : Nat} {w g : Int} {h : PH} {Q : Int → PH → Prop} {X : Nat → PH → Prop} (k64 : hk h 64 = 7) (r65 : hr h 64 0 = 65) (k65 : hk h 65 = 21) (l65 : hl h 65 = 700) (f1 : hi h 64 1 = g) (g0 : 0 ≤ g) (g7 : g + 4 ≤ 700) (H : ∀ h', BFX h h' (g + 4) → AWC h h' g 4 w → Q 0 h') : RUN GQ (d + 1) m_X6_appendWord [pA 64, pI w] h Q X := by
  rw [e_X6_appendWord]
  refine WP.of (RUN.mono GQ _) (cuts := [3]) (n := 400) (v_X6_appendWord_0 _ _ _ _ _ _ ?_)
  exact L_X6_appendWord_3 4 _ g _ k64 r65 k65 l65 f1 g0 g7 (by decide) (by omega) H
theorem apl_eq {a1 b1 c1 d1 e1 : Int} : ∀ (n : Nat) (k : Int) (D : Nat → Int → Int), apl a1 b1 c1 d1 e1 n k D = srow D 10 (fun e => if D 0 17 + k ≤ e ∧ e < D 0 17 + k + n then apb a1 b1 c1 d1 e1 (e - D 0 17) else D 10 e)
  | 0, k, D => by
    show D = _
    funext j' e
    unfold srow
    by_cases q : j' = 10
    · rw [if_pos q, q]
      exact (if_neg (by omega)).symm
    · rw [if_neg q]
  | n + 1, k, D => by
    show apl a1 b1 c1 d1 e1 n (k + 1) (dst D 10 (D 0 17 + k) (apb a1 b1 c1 d1 e1 k)) = _
    rw [apl_eq n (k + 1), srow_dst, dst_row (by decide)]
    congr 1
    funext e
    by_cases q : e = D 0 17 + k
    · rw [q, if_neg (by omega), if_pos (by omega), dst_eq]
      congr 1
      omega
    · rw [dst_ne q]
      by_cases q2 : D 0 17 + k ≤ e ∧ e < D 0 17 + k + (n + 1 : Nat)
      · rw [if_pos (by omega), if_pos q2]
      · rw [if_neg (by omega), if_neg q2]
theorem sgb_apb {a1 b1 c1 d1 e1 k w j : Int} (hj : 0 ≤ j ∧ j < 4) (hw : (if k < 4 then a1 else if k < 8 then b1 else if k < 12 then c1 else if k < 16 then d1 else e1) = w) (hk' : 0 ≤ k) (hkj : k % 4 = j) : sgb (apb a1 b1 c1 d1 e1 k) = bi2b (bshr w (24 - 8 * j)) := by
  unfold apb
  rw [hw, sgb_band (bshr_InR _ _), Int.tmod_eq_emod_of_nonneg hk', hkj]
theorem S_X6_append {d : Nat} {h : PH} {B A : Nat} {EP E D : Nat → Int → Int} {s : Int → Int} {Q : Int → PH → Prop} {X : Nat → PH → Prop} {a1 b1 c1 d1 e1 : Int} (T : FT h B A EP E D s) (F : BFR h D) (h17 : 0 ≤ D 0 17 ∧ D 0 17 ≤ 700)
    (H0 : 700 < D 0 17 + 20 → Q (-1) h) (H : ∀ h', D 0 17 + 20 ≤ 700 → BFX h h' (D 0 17 + 20) → BFR h' (dst (apl a1 b1 c1 d1 e1 20 0 D) 0 17 (D 0 17 + 20)) → Q (D 0 17 + 20) h') : RUN GQ (d + 2) m_X6_append [pA 64, pI a1, pI b1, pI c1, pI d1, pI e1] h Q X := by
  rw [e_X6_append]
  refine WP.of (RUN.mono GQ _) (cuts := []) (n := 400) (v_X6_append_0 _ _ _ _ _ _ _ _ _ ?_)
  have f1 := T.f1
  rw [f1]
  refine ⟨T.k, ir (by omega) (by omega), ir (by omega) (by omega), fun c => H0 (by omega), fun c => ⟨T.k, ?_⟩⟩
  refine S_X6_appendWord T.k T.r0 F.1 F.2.1 f1 (by omega) (by omega) (fun h1 x1 y1 => ⟨(x1.k 64).trans T.k, ?_⟩)
  refine S_X6_appendWord ((x1.k 64).trans T.k) ((x1.2.2.2.1 64 0).trans T.r0) ((x1.k 65).trans F.1) ((x1.l 65).trans F.2.1) x1.2.2.2.2.2 (by omega) (by omega) (fun h2 x2 y2 => ?_)
  have z2 := x1.trans x2
  refine ⟨(z2.k 64).trans T.k, ?_⟩
  refine S_X6_appendWord ((z2.k 64).trans T.k) ((z2.2.2.2.1 64 0).trans T.r0) ((z2.k 65).trans F.1) ((z2.l 65).trans F.2.1) z2.2.2.2.2.2 (by omega) (by omega) (fun h3 x3 y3 => ?_)
  have z3 := z2.trans x3
  refine ⟨(z3.k 64).trans T.k, ?_⟩
  refine S_X6_appendWord ((z3.k 64).trans T.k) ((z3.2.2.2.1 64 0).trans T.r0) ((z3.k 65).trans F.1) ((z3.l 65).trans F.2.1) z3.2.2.2.2.2 (by omega) (by omega) (fun h4 x4 y4 => ?_)
  have z4 := z3.trans x4
  refine ⟨(z4.k 64).trans T.k, ?_⟩
  refine S_X6_appendWord ((z4.k 64).trans T.k) ((z4.2.2.2.1 64 0).trans T.r0) ((z4.k 65).trans F.1) ((z4.l 65).trans F.2.1) z4.2.2.2.2.2 (by omega) (by omega) (fun h5 x5 y5 => ?_)
  have z5 := z4.trans x5
  refine ⟨(z5.k 64).trans T.k, ?_⟩
  have e17 : D 0 17 + 4 + 4 + 4 + 4 + 4 = D 0 17 + 20 := by omega
  rw [z5.2.2.2.2.2, e17]
  rw [e17] at z5
  refine H h5 (by omega) z5 ⟨(z5.k 65).trans F.1, (z5.l 65).trans F.2.1, fun e he0 he7 => ?_⟩
  rw [dst_row (by decide), apl_eq]
  show _ = sgb (if D 0 17 + 0 ≤ e ∧ e < D 0 17 + 0 + (20 : Nat) then apb a1 b1 c1 d1 e1 (e - D 0 17) else D 10 e)
  rw [y5 e he0, y4 e he0, y3 e he0, y2 e he0, y1 e he0]
  by_cases q : D 0 17 ≤ e ∧ e < D 0 17 + 20
  · rw [if_pos (c := D 0 17 + 0 ≤ e ∧ e < D 0 17 + 0 + ((20 : Nat) : Int)) (by omega)]
    by_cases q1 : e < D 0 17 + 4
    · rw [if_neg (by omega), if_neg (by omega), if_neg (by omega), if_neg (by omega), if_pos (by omega)]
      rw [sgb_apb (w := a1) (j := e - D 0 17) (by omega) (by rw [if_pos (by omega)]) (by omega) (by omega)]
      exact congrArg (fun z => bi2b (bshr a1 z)) (by omega)
    · by_cases q2 : e < D 0 17 + 8
      · rw [if_neg (by omega), if_neg (by omega), if_neg (by omega), if_pos (by omega)]
        rw [sgb_apb (w := b1) (j := e - D 0 17 - 4) (by omega) (by rw [if_neg (by omega), if_pos (by omega)]) (by omega) (by omega)]
        exact congrArg (fun z => bi2b (bshr b1 z)) (by omega)
      · by_cases q3 : e < D 0 17 + 12
        · rw [if_neg (by omega), if_neg (by omega), if_pos (by omega)]
          rw [sgb_apb (w := c1) (j := e - D 0 17 - 8) (by omega) (by rw [if_neg (by omega), if_neg (by omega), if_pos (by omega)]) (by omega) (by omega)]
          exact congrArg (fun z => bi2b (bshr c1 z)) (by omega)
        · by_cases q4 : e < D 0 17 + 16
          · rw [if_neg (by omega), if_pos (by omega)]
            rw [sgb_apb (w := d1) (j := e - D 0 17 - 12) (by omega) (by rw [if_neg (by omega), if_neg (by omega), if_neg (by omega), if_pos (by omega)]) (by omega) (by omega)]
            exact congrArg (fun z => bi2b (bshr d1 z)) (by omega)
          · rw [if_pos (by omega)]
            rw [sgb_apb (w := e1) (j := e - D 0 17 - 16) (by omega) (by rw [if_neg (by omega), if_neg (by omega), if_neg (by omega), if_neg (by omega)]) (by omega) (by omega)]
            exact congrArg (fun z => bi2b (bshr e1 z)) (by omega)
  · rw [if_neg (by omega), if_neg (by omega), if_neg (by omega), if_neg (by omega), if_neg (by omega), if_neg (by omega)]
    exact F.2.2 e he0 he7
theorem S_X6_find {d : Nat} {h : PH} {B A : Nat} {EP E D : Nat → Int → Int} {s : Int → Int} {N : Int} {Q : Int → PH → Prop} {X : Nat → PH → Prop} {z n : Int} (T : FT h B A EP E D s) (W : WD D s N) (dAB : DAB A B) (F : BFR h D) (hB : BY D) (h17 : 0 ≤ D 0 17 ∧ D 0 17 ≤ 700) (hvn : InR n) (hz : z = 0 ∨ z = 1)
    (H : ck (tL D) n 0 (D 0 17) 2 = 0 → Q (if z = 0 then nmv (D 2) D 0 n (D 0 4).toNat 0 else nmv (D 1) D 0 n (D 0 3).toNat 0) (hsi h 64 1 0)) (HX : ∀ e n', (ck (tL D) n 0 (D 0 17) 2 = 1 ∧ e = 0 ∨ ck (tL D) n 0 (D 0 17) 2 = 2 ∧ e = 2) → hn h ≤ n' → X e (hup h n')) : RUN GQ (d + 7) m_X6_find [pA 64, pI z, pI n] h Q X := by
  obtain ⟨w1, w2, w3, wN, ws1, wI⟩ := id W
  have kL := tL_or D
  have k1 := ck_or (tL D) n 0 (D 0 17) 2
  have dA := dAB
  unfold DAB at dA
  rw [e_X6_find]
  refine WP.of (RUN.mono GQ _) (cuts := []) (n := 400) (v_X6_find_0 _ _ _ _ _ _ _ ?_)
  refine ⟨T.k, ⟨by omega, by omega⟩, ?_⟩
  refine S_X6_needHall T (fun c0 => ?_) (fun c0 n' l => HX 0 n' (Or.inl ⟨by omega, rfl⟩) l)
  obtain ⟨I, V, sw⟩ := wI c0
  have U := (T.u c0).2
  rw [T.f1]
  refine ⟨hvn, fun c1 => ⟨⟨by omega, by omega⟩, ?_⟩, fun c1 => ⟨T.k, hvn, ir (by omega) (by omega), fun c2 => ⟨⟨by omega, by omega⟩, ?_⟩, fun c2 => ⟨⟨by omega, by omega⟩, ?_⟩⟩⟩
  · exact S_X6_needIndex (Or.inl rfl) (fun z => absurd rfl z) (fun _ n' l => HX 2 n' (Or.inr ⟨by omega, rfl⟩) l)
  · exact S_X6_needIndex (Or.inl rfl) (fun z => absurd rfl z) (fun _ n' l => HX 2 n' (Or.inr ⟨by omega, rfl⟩) l)
  · refine S_X6_needIndex (Or.inr rfl) (fun _ => ?_) (fun z => absurd (by decide) z)
    refine ⟨T.k, fun h3 q3 => ?_⟩
    have H' := H (by omega)
    rw [← q3] at H'
    have S3 : ∀ r, r ≠ 64 → SC h h3 r := fun r hr' => by rw [q3]; exact ⟨rfl, fun k => ⟨by rw [hi_hsi, if_neg (by omega)], rfl⟩⟩
    have L3 : Px B h3 h3 EP := T.L.sc (fun r a b => S3 r (by omega)) rP_lt
    have S65 := S3 65 (by omega)
    have F3 : BFR h3 D := ⟨S65.k.trans F.1, S65.l.trans F.2.1, fun e a b => ((S65.2 _).1).trans (F.2.2 e a b)⟩
    have k3 : hk h3 64 = 7 := by rw [q3]; exact T.k
    have e5 : hr h3 64 5 = B := by rw [q3]; exact T.r5
    have e0 : hr h3 64 0 = 65 := by rw [q3]; exact T.r0
    rw [e5, e0, show hr h3 B 0 = B + 1 from Bx.r L3 0 0 1 (by decide), show hr h3 B 1 = B + 4 from Bx.r L3 0 1 4 (by decide)]
    refine ⟨ir (by omega) (by omega), fun c3 => ⟨k3, L3.k 0 (by decide) rfl, k3, L3.k 4 (by decide) rfl, ?_⟩, fun c3 => ⟨k3, L3.k 0 (by decide) rfl, k3, L3.k 1 (by decide) rfl, ?_⟩⟩
    · refine S_X2_placeOf_p L3 F3 U.p ⟨w3.1, by omega⟩ U.2.2.1 hB ⟨by omega, by omega⟩ ⟨c1, by omega⟩ (fun x e => ?_)
      rw [Int.zero_add] at e
      rw [if_pos c3, ← e] at H'
      exact H'
    · refine S_X2_placeOf_k L3 F3 U.k w2 U.2.1 hB ⟨by omega, by omega⟩ ⟨c1, by omega⟩ (fun x e => ?_)
      rw [Int.zero_add] at e
      rw [if_neg c3, ← e] at H'
      exact H'
