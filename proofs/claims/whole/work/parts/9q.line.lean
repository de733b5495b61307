/-! the model reads lines (written by wip/whole/tools/eng.py) -/
section VCS
variable {call : PC} {mc ms fr : Nat} {Q : Int → PH → Prop} {X : Nat → PH → Prop} {K : PK}
set_option maxRecDepth 100000 in
theorem v_X7_isWord_0 (a0 : Nat) (a1 : Nat) (z2 : Option PV) (h : PH) (c s : Nat) (H : hk h a0 = 8 ∧ InR (hi h a0 25) ∧ ((hi h a0 25) = 0 →
 hk h a0 = 8 ∧ InR (hi h a0 23) ∧ InR 1 ∧ ((hi h a0 23) = 1 →
 hk h a0 = 8 ∧ hk h a0 = 8 ∧ 6 ≤ fr ∧ hk h a1 = 27 ∧ InR ((hi h a0 21) - (hi h a0 22)) ∧ InR ((hl h a1 : Int)) ∧ (((hi h a0 21) - (hi h a0 22)) = ((hl h a1 : Int)) →
 K 35 [some (pA a0), some (pA a1), some (pI 0)] [] h c s) ∧
(((hi h a0 21) - (hi h a0 22)) ≠ ((hl h a1 : Int)) →
 ((0 : Int) = 0 ∨ (0 : Int) = 1) ∧ Q 0 h)) ∧
((hi h a0 23) ≠ 1 →
 ((0 : Int) = 0 ∨ (0 : Int) = 1) ∧ Q 0 h)) ∧
((hi h a0 25) ≠ 0 →
 ((0 : Int) = 0 ∨ (0 : Int) = 1) ∧ Q 0 h)) : wpc k_X7_isWord [] call mc ms fr Q X [35] K 400 (pto 0 k_X7_isWord) [some (pA a0), some (pA a1), z2] [] h c s :=
  H
set_option maxRecDepth 100000 in
theorem v_X7_isWord_35 (a0 : Nat) (a1 : Nat) (i2 : Int) (h : PH) (c s : Nat) (H : 6 ≤ fr ∧ hk h a1 = 27 ∧ InR i2 ∧ InR ((hl h a1 : Int)) ∧ (i2 < ((hl h a1 : Int)) →
 hk h a0 = 8 ∧ hk h a0 = 8 ∧ call m_X7_seen [pA a0, pI ((hi h a0 22) + i2)] h (fun x1 h1 =>
 6 ≤ fr ∧ hk h1 a1 = 27 ∧ (0 ≤ i2 ∧ i2 < hl h1 a1) ∧ InR x1 ∧ InR (hi h1 a1 (Int.toNat i2)) ∧ (x1 = (hi h1 a1 (Int.toNat i2)) →
 K 35 [some (pA a0), some (pA a1), some (pI (i2 + 1))] [] h1 c s) ∧
(x1 ≠ (hi h1 a1 (Int.toNat i2)) →
 ((0 : Int) = 0 ∨ (0 : Int) = 1) ∧ Q 0 h1)) X) ∧
(((hl h a1 : Int)) ≤ i2 →
 ((1 : Int) = 0 ∨ (1 : Int) = 1) ∧ Q 1 h)) : wpc k_X7_isWord [] call mc ms fr Q X [35] K 400 (pto 35 k_X7_isWord) [some (pA a0), some (pA a1), some (pI i2)] [] h c s :=
  H
end VCS
theorem L_X7_isWord_35 {d b : Nat} {h0 h : PH} {D : Nat → Int → Int} {s : Int → Int} {t : Int} {Q : Int → PH → Prop} {X : Nat → PH → Prop} {q : Nat} {w : List Int} (M : Mt b h0 h D s t) (P : PR D) (hS : STR h q w) (hw : w.length ≤ 10) : ∀ (n : Nat) (i : Int), (0 ≤ i ∧ i + n = w.length) → (∀ x : Int, x = wdl D w n i → Q x h) → WP k_X7_isWord [] (RUN GQ (d + 6)) 0 0 (d + 7) Q X 35 [some (pA b), some (pA q), some (pI i)] [] h 0 0 := by
  intro n
  induction n with
  | zero =>
    intro i hi H
    have P1 := P.1
    have P2 := P.2.1
    refine WP.of (RUN.mono GQ _) (cuts := [35]) (n := 400) (v_X7_isWord_35 _ _ _ _ _ _ ?_)
    refine ⟨by omega, hS.1, ?_⟩
    rw [hS.2.1]
    refine ⟨ir (by omega) (by omega), ir (by omega) (by omega), fun c40 => ?_, fun c40 => ?_⟩
    · exfalso; omega
    · refine ⟨(by omega), ?_⟩
      exact H _ rfl
  | succ n ih =>
    intro i hi H
    have P1 := P.1
    have P2 := P.2.1
    refine WP.of (RUN.mono GQ _) (cuts := [35]) (n := 400) (v_X7_isWord_35 _ _ _ _ _ _ ?_)
    refine ⟨by omega, hS.1, ?_⟩
    rw [hS.2.1]
    refine ⟨ir (by omega) (by omega), ir (by omega) (by omega), fun c40 => ?_, fun c40 => ?_⟩
    · refine ⟨M.k0, ?_⟩
      try rw [M.f22]
      refine ⟨M.k0, ?_⟩
      refine S_X7_seen M (by omega) (by omega) (by omega) (fun x50 e50 => ?_)
      subst e50
      refine ⟨by omega, hS.1, ⟨by omega, by rw [hS.2.1]; omega⟩, ?_⟩
      rw [hS.2.2.1 _ (by omega) (by omega)]
      have rb := bt_rng P.B P.L.2 (k := D 0 22 + i) (by omega)
      have rc := hS.2.2.2 i.toNat
      refine ⟨ir (by omega) (by omega), ir (by omega) (by omega), fun c58 => ?_, fun c58 => ?_⟩
      · refine ih _ (by omega) ?_
        rw [wdl, if_pos c58] at H
        exact H
      · refine ⟨(by omega), ?_⟩
        exact H _ (by rw [wdl, if_neg c58])
    · exfalso; omega
theorem S_X7_isWord {d b : Nat} {h0 h : PH} {D : Nat → Int → Int} {s : Int → Int} {t : Int} {Q : Int → PH → Prop} {X : Nat → PH → Prop} {q : Nat} {w : List Int} (M : Mt b h0 h D s t) (P : PR D) (hS : STR h q w) (hw : w.length ≤ 10) (H : ∀ x : Int, x = wdv D w → Q x h) : RUN GQ (d + 7) m_X7_isWord [pA b, pA q] h Q X := by
  have Pw := P.w
  have P1 := P.1
  have P2 := P.2.1
  have P3 := P.2.2.1
  rw [e_X7_isWord]
  refine WP.of (RUN.mono GQ _) (cuts := [35]) (n := 400) (v_X7_isWord_0 _ _ _ _ _ _ ?_)
  refine ⟨M.k0, ?_⟩
  try rw [M.f25]
  refine ⟨ir (by omega) (by omega), fun c4 => ?_, fun c4 => ?_⟩
  · refine ⟨M.k0, ?_⟩
    try rw [M.f23]
    refine ⟨ir (by omega) (by omega), ir (by omega) (by omega), fun c12 => ?_, fun c12 => ?_⟩
    · refine ⟨M.k0, ?_⟩
      try rw [M.f21]
      refine ⟨M.k0, ?_⟩
      try rw [M.f22]
      refine ⟨by omega, hS.1, ?_⟩
      rw [hS.2.1]
      refine ⟨ir (by omega) (by omega), ir (by omega) (by omega), fun c28 => ?_, fun c28 => ?_⟩
      · refine L_X7_isWord_35 M P hS hw (w.length) _ (by omega) ?_
        unfold wdv at H
        rw [if_pos (by omega)] at H
        exact H
      · refine ⟨(by omega), ?_⟩
        exact H _ (by unfold wdv; rw [if_neg (by omega)])
    · refine ⟨(by omega), ?_⟩
      exact H _ (by unfold wdv; rw [if_neg (by omega)])
  · refine ⟨(by omega), ?_⟩
    exact H _ (by unfold wdv; rw [if_neg (by omega)])
