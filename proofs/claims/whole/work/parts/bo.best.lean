/-! the class: bestMask (written by wip/whole/tools/eng.py) -/
section VCS
variable {call : PC} {mc ms fr : Nat} {Q : Int → PH → Prop} {X : Nat → PH → Prop} {K : PK}
set_option maxRecDepth 100000 in
theorem v_X6_bestMask_0 (a0 : Nat) (i1 : Int) (z2 : Option PV) (z3 : Option PV) (z4 : Option PV) (z5 : Option PV) (h : PH) (c s : Nat) (H : hk h a0 = 7 ∧ (c + 1 ≤ mc ∧ s + 6 ≤ ms) ∧ call m_X6_needHall [pA a0] h (fun _ h1 =>
 hk h1 a0 = 7 ∧ ((c + 1) + 1 ≤ mc ∧ (s + 6) + 6 ≤ ms) ∧ call m_X6_needProgram [pA a0, pI i1] h1 (fun _ h2 =>
 K 16 [some (pA a0), some (pI i1), some (pI ((-1))), some (pI 0), some (pI 0), z5] [] h2 ((c + 1) + 1) ((s + 6) + 6)) X) X) : wpc k_X6_bestMask [] call mc ms fr Q X [16] K 400 (pto 0 k_X6_bestMask) [some (pA a0), some (pI i1), z2, z3, z4, z5] [] h c s :=
  H
set_option maxRecDepth 100000 in
theorem v_X6_bestMask_16 (a0 : Nat) (i1 : Int) (i2 : Int) (i3 : Int) (i4 : Int) (z5 : Option PV) (h : PH) (c s : Nat) (H : hk h a0 = 7 ∧ hk h (hr h a0 5) = 6 ∧ hk h (hr h (hr h a0 5) 0) = 3 ∧ InR i4 ∧ InR (hi h (hr h (hr h a0 5) 0) 2) ∧ (i4 < (hi h (hr h (hr h a0 5) 0) 2) →
 hk h a0 = 7 ∧ hk h (hr h a0 6) = 1 ∧ call m_X0_isMasked [pA (hr h a0 6), pI i1, pI i4] h (fun x1 h1 =>
 InR x1 ∧ (x1 = 0 →
 hk h1 a0 = 7 ∧ call m_X6_othersIfMasked [pA a0, pI i1, pI i4] h1 (fun x2 h2 =>
 InR i2 ∧ InR ((-1)) ∧ (i2 = ((-1)) →
 K 16 [some (pA a0), some (pI i1), some (pI i4), some (pI x2), some (pI (i4 + 1)), some (pI x2)] [] h2 c s) ∧
(i2 ≠ ((-1)) →
 InR x2 ∧ InR i3 ∧ (x2 < i3 →
 K 16 [some (pA a0), some (pI i1), some (pI i4), some (pI x2), some (pI (i4 + 1)), some (pI x2)] [] h2 c s) ∧
(i3 ≤ x2 →
 K 16 [some (pA a0), some (pI i1), some (pI i2), some (pI i3), some (pI (i4 + 1)), some (pI x2)] [] h2 c s))) X) ∧
(x1 ≠ 0 →
 K 16 [some (pA a0), some (pI i1), some (pI i2), some (pI i3), some (pI (i4 + 1)), z5] [] h1 c s)) X) ∧
((hi h (hr h (hr h a0 5) 0) 2) ≤ i4 →
 Q i2 h)) : wpc k_X6_bestMask [] call mc ms fr Q X [16] K 400 (pto 16 k_X6_bestMask) [some (pA a0), some (pI i1), some (pI i2), some (pI i3), some (pI i4), z5] [] h c s :=
  H
end VCS
theorem L_X6_bestMask_16 {d : Nat} {Q : Int → PH → Prop} {X : Nat → PH → Prop} {p : Int} {B A A2 : Nat} {EP E D : Nat → Int → Int} {s : Int → Int} {N : Int} {h0 : PH} (T : FT h0 B A EP E D s) (T8 : hr h0 64 8 = A2) (dj : DJ A2 A B) (V : PIv D) (U : PT EP D) (I : HI (D 0 3) (D 0 4) (D 0 2) N s) (R : HR E (D 0 2) (D 0 3) s) (sw : s (-1) = -1) (wN : N ≤ 1990000000) (hp6 : 0 ≤ p ∧ p < 6) : ∀ (n : Nat) (best fe k : Int) (z5 : Option PV) (E2 : Nat → Int → Int) (h : PH) (le : Int), (Hx A2 h0 h E2) → (E2 6 0 = 13) → (E2 9 0 = 4) → (0 ≤ k ∧ k + n = D 0 3) → (-1 ≤ best ∧ best < 8) → (0 ≤ fe ∧ fe ≤ 1995000000) → (best ≠ -1 → fe = le + s (91 + 4 * p + 3)) → (∀ (x : Int) h' E', x = bml D s p n k best le → Hx A2 h0 h' E' → E' 6 0 = 13 → E' 9 0 = 4 → Q x h') → WP k_X6_bestMask [] (RUN GQ (d + 7)) 24 1700 (d + 8) Q X 16 [some (pA 64), some (pI p), some (pI best), some (pI fe), some (pI k), z5] [] h 2 12 := by
  intro n
  induction n with
  | zero =>
    intro best fe k z5 E2 h le M2 s6 s9 hk0 hb hf hle H
    obtain ⟨v2, v3, v4, vh⟩ := id V
    refine WP.of (RUN.mono GQ _) (cuts := [16]) (n := 400) (v_X6_bestMask_16 _ _ _ _ _ _ _ _ _ ?_)
    refine ⟨(T.sa M2.2.1 dj).k, ?_⟩
    try rw [(T.sa M2.2.1 dj).r5]
    refine ⟨Bx.k (Bx.sa T.L M2.2.1 dj.2.2) 0 (by decide) rfl, ?_⟩
    try rw [show hr h B 0 = B + 1 from Bx.r (Bx.sa T.L M2.2.1 dj.2.2) 0 0 1 (by decide)]
    refine ⟨Bx.k (Bx.sa T.L M2.2.1 dj.2.2) 1 (by decide) rfl, ?_⟩
    try rw [show hi h (B + 1) 2 = _ from Bx.f2 (Bx.sa T.L M2.2.1 dj.2.2) 1 (by decide)]
    rw [U.k]
    refine ⟨ir (by omega) (by omega), ir (by omega) (by omega), fun c28 => ?_, fun c28 => ?_⟩
    · exfalso; omega
    · exact H _ _ _ rfl M2 s6 s9
  | succ n ih =>
    intro best fe k z5 E2 h le M2 s6 s9 hk0 hb hf hle H
    obtain ⟨v2, v3, v4, vh⟩ := id V
    have J48 : HI (D 0 3) (D 0 4) (D 0 2) (N + 481 * (50 : Nat)) (e_tks D 50 (bmm s p k)) := tks_HI V rfl rfl 50 _ _ (msk_HI I v3.1 v4.1 hp6 (bor_InR _ _))
    have o48 := J48.cn (e := 91 + 4 * p + 3) (Or.inr (Or.inr ⟨by omega, by omega⟩))
    have ms := msk_01 (s := s) p k
    refine WP.of (RUN.mono GQ _) (cuts := [16]) (n := 400) (v_X6_bestMask_16 _ _ _ _ _ _ _ _ _ ?_)
    refine ⟨(T.sa M2.2.1 dj).k, ?_⟩
    try rw [(T.sa M2.2.1 dj).r5]
    refine ⟨Bx.k (Bx.sa T.L M2.2.1 dj.2.2) 0 (by decide) rfl, ?_⟩
    try rw [show hr h B 0 = B + 1 from Bx.r (Bx.sa T.L M2.2.1 dj.2.2) 0 0 1 (by decide)]
    refine ⟨Bx.k (Bx.sa T.L M2.2.1 dj.2.2) 1 (by decide) rfl, ?_⟩
    try rw [show hi h (B + 1) 2 = _ from Bx.f2 (Bx.sa T.L M2.2.1 dj.2.2) 1 (by decide)]
    rw [U.k]
    refine ⟨ir (by omega) (by omega), ir (by omega) (by omega), fun c28 => ?_, fun c28 => ?_⟩
    · refine ⟨(T.sa M2.2.1 dj).k, ?_⟩
      try rw [(T.sa M2.2.1 dj).r6]
      refine ⟨Bx.k (Bx.sa T.M M2.2.1 dj.2.1) 0 (by decide) rfl, ?_⟩
      refine S_X0_isMasked (Bx.sa T.M M2.2.1 dj.2.1) R I (by omega) (fun x38 e38 => ?_)
      subst e38
      refine ⟨ir (by omega) (by omega), fun c41 => ?_, fun c41 => ?_⟩
      · refine ⟨(T.sa M2.2.1 dj).k, ?_⟩
        refine S_X6_othersIfMasked T T8 dj V U M2 s6 s9 I R sw (by omega) (by omega) (fun x48 h48 E48 e48 M48 z648 z948 => ?_)
        subst e48
        refine ⟨ir (by omega) (by omega), ir (by omega) (by omega), fun c55 => ?_, fun c55 => ?_⟩
        · refine ih _ _ _ _ _ _ (e_tks D 50 (bmm s p k) (91 + 4 * p + 3) - s (91 + 4 * p + 3)) M48 z648 z948 (by omega) (by omega) (by omega) (by omega) ?_
          first
          | (rw [bml, if_neg (by omega)] at H; exact H)
          | (rw [bml, if_pos (by omega), if_pos (by omega)] at H; exact H)
          | (rw [bml, if_pos (by omega), if_neg (by omega)] at H; exact H)
        · refine ⟨ir (by omega) (by omega), ir (by omega) (by omega), fun c61 => ?_, fun c61 => ?_⟩
          · refine ih _ _ _ _ _ _ (e_tks D 50 (bmm s p k) (91 + 4 * p + 3) - s (91 + 4 * p + 3)) M48 z648 z948 (by omega) (by omega) (by omega) (by omega) ?_
            first
            | (rw [bml, if_neg (by omega)] at H; exact H)
            | (rw [bml, if_pos (by omega), if_pos (by omega)] at H; exact H)
            | (rw [bml, if_pos (by omega), if_neg (by omega)] at H; exact H)
          · refine ih _ _ _ _ _ _ le M48 z648 z948 (by omega) (by omega) (by omega) (by omega) ?_
            first
            | (rw [bml, if_neg (by omega)] at H; exact H)
            | (rw [bml, if_pos (by omega), if_pos (by omega)] at H; exact H)
            | (rw [bml, if_pos (by omega), if_neg (by omega)] at H; exact H)
      · refine ih _ _ _ _ _ _ le M2 s6 s9 (by omega) (by omega) (by omega) (by omega) ?_
        first
        | (rw [bml, if_neg (by omega)] at H; exact H)
        | (rw [bml, if_pos (by omega), if_pos (by omega)] at H; exact H)
        | (rw [bml, if_pos (by omega), if_neg (by omega)] at H; exact H)
    · exfalso; omega
theorem S_X6_bestMask {d : Nat} {h : PH} {B A A2 : Nat} {EP E E2 D : Nat → Int → Int} {s : Int → Int} {N : Int} {Q : Int → PH → Prop} {X : Nat → PH → Prop} {p : Int} (T : FT h B A EP E D s) (W : WD D s N) (T8 : hr h 64 8 = A2) (dj : DJ A2 A B) (M2 : Hx A2 h h E2) (s6 : E2 6 0 = 13) (s9 : E2 9 0 = 4) (hvp : InR p) (H : ∀ (x : Int) h' E', ck (tL D) p 0 (D 0 4 - 1) 2 = 0 → x = bml D s p (D 0 3).toNat 0 (-1) 0 → Hx A2 h h' E' → E' 6 0 = 13 → E' 9 0 = 4 → Q x h') (HX : ∀ (e n' : Nat), (ck (tL D) p 0 (D 0 4 - 1) 2 = 1 ∧ e = 0 ∨ ck (tL D) p 0 (D 0 4 - 1) 2 = 2 ∧ e = 2) → hn h ≤ n' → X e (hup h n')) : RUN GQ (d + 8) m_X6_bestMask [pA 64, pI p] h Q X := by
  obtain ⟨w1, w2, w3, wN, ws1, wI⟩ := id W
  have kL := tL_or D
  have M := T.M
  have L := T.L
  have k1 := ck_or (tL D) p 0 (D 0 4 - 1) 2
  rw [e_X6_bestMask]
  refine WP.of (RUN.mono GQ _) (cuts := [16]) (n := 400) (v_X6_bestMask_0 _ _ _ _ _ _ _ _ _ ?_)
  refine ⟨(T.sa M2.2.1 dj).k, ?_⟩
  refine ⟨⟨by omega, by omega⟩, ?_⟩
  refine S_X6_needHall T (fun c1 => ?_) (fun c1 n1 l1 => ?_)
  · obtain ⟨I, V, sw⟩ := wI (by omega)
    obtain ⟨R, U⟩ := T.u (by omega)
    obtain ⟨v2, v3, v4, vh⟩ := id V
    have I1 := I.e1
    have I2 := I.e2
    refine ⟨(T.sa M2.2.1 dj).k, ?_⟩
    refine ⟨⟨by omega, by omega⟩, ?_⟩
    refine S_X6_needProgram T U V (by omega) (fun c6 => ?_) (fun c6 n6 l6 => ?_)
    · refine L_X6_bestMask_16 T T8 dj V U I R sw (by omega) (by omega) ((D 0 3).toNat) _ _ _ _ _ _ 0 M2 s6 s9 (by omega) (by omega) (by omega) (by omega) ?_
      exact fun x h' E' e M' a b => H x h' E' (by omega) e M' a b
    · exact HX 2 _ (by omega) l6
  · exact HX 0 _ (by omega) l1
