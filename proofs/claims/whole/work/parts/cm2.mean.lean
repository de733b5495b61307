/-! the model's floats (written by wip/whole/tools/eng.py) -/
section VCS
variable {call : PC} {mc ms fr : Nat} {Q : Int → PH → Prop} {X : Nat → PH → Prop} {K : PK}
set_option maxRecDepth 100000 in
theorem v_X7_meanWait_0 (a0 : Nat) (h : PH) (c s : Nat) (H : hk h a0 = 8 ∧ call m_X7_notLoaded [pA a0] h (fun x1 h1 =>
 InR x1 ∧ (x1 = 0 →
 hk h1 a0 = 8 ∧ (hk h1 (hr h1 a0 11) = 20 ∨ hk h1 (hr h1 a0 11) = 26) ∧ (0 ≤ (4 : Int) ∧ (4 : Int) < (hl h1 (hr h1 a0 11) : Int)) ∧ InR (hi h1 (hr h1 a0 11) (Int.toNat (4 : Int))) ∧ ((hi h1 (hr h1 a0 11) (Int.toNat (4 : Int))) = 0 →
 Q 0 h1) ∧
((hi h1 (hr h1 a0 11) (Int.toNat (4 : Int))) ≠ 0 →
 hk h1 a0 = 8 ∧ (hk h1 (hr h1 a0 11) = 20 ∨ hk h1 (hr h1 a0 11) = 26) ∧ (0 ≤ (3 : Int) ∧ (3 : Int) < (hl h1 (hr h1 a0 11) : Int)) ∧ hk h1 a0 = 8 ∧ (hk h1 (hr h1 a0 11) = 20 ∨ hk h1 (hr h1 a0 11) = 26) ∧ (0 ≤ (4 : Int) ∧ (4 : Int) < (hl h1 (hr h1 a0 11) : Int)) ∧ okD (fddiv (fi2d (hi h1 (hr h1 a0 11) (Int.toNat (3 : Int)))) (fi2d (hi h1 (hr h1 a0 11) (Int.toNat (4 : Int))))) ∧ Q (fddiv (fi2d (hi h1 (hr h1 a0 11) (Int.toNat (3 : Int)))) (fi2d (hi h1 (hr h1 a0 11) (Int.toNat (4 : Int))))) h1)) ∧
(x1 ≠ 0 →
 Q 0 h1)) X) : wpc k_X7_meanWait [] call mc ms fr Q X [] K 400 (pto 0 k_X7_meanWait) [some (pA a0)] [] h c s :=
  H
set_option maxRecDepth 100000 in
theorem v_X7_handledShare_0 (a0 : Nat) (h : PH) (c s : Nat) (H : hk h a0 = 8 ∧ call m_X7_notLoaded [pA a0] h (fun x1 h1 =>
 InR x1 ∧ (x1 = 0 →
 hk h1 a0 = 8 ∧ (hk h1 (hr h1 a0 11) = 20 ∨ hk h1 (hr h1 a0 11) = 26) ∧ (0 ≤ (2 : Int) ∧ (2 : Int) < (hl h1 (hr h1 a0 11) : Int)) ∧ InR (hi h1 (hr h1 a0 11) (Int.toNat (2 : Int))) ∧ ((hi h1 (hr h1 a0 11) (Int.toNat (2 : Int))) = 0 →
 Q 0 h1) ∧
((hi h1 (hr h1 a0 11) (Int.toNat (2 : Int))) ≠ 0 →
 hk h1 a0 = 8 ∧ (hk h1 (hr h1 a0 11) = 20 ∨ hk h1 (hr h1 a0 11) = 26) ∧ (0 ≤ (4 : Int) ∧ (4 : Int) < (hl h1 (hr h1 a0 11) : Int)) ∧ hk h1 a0 = 8 ∧ (hk h1 (hr h1 a0 11) = 20 ∨ hk h1 (hr h1 a0 11) = 26) ∧ (0 ≤ (2 : Int) ∧ (2 : Int) < (hl h1 (hr h1 a0 11) : Int)) ∧ okF (ffdiv (fi2f (hi h1 (hr h1 a0 11) (Int.toNat (4 : Int)))) (fi2f (hi h1 (hr h1 a0 11) (Int.toNat (2 : Int))))) ∧ Q (ffdiv (fi2f (hi h1 (hr h1 a0 11) (Int.toNat (4 : Int)))) (fi2f (hi h1 (hr h1 a0 11) (Int.toNat (2 : Int))))) h1)) ∧
(x1 ≠ 0 →
 Q 0 h1)) X) : wpc k_X7_handledShare [] call mc ms fr Q X [] K 400 (pto 0 k_X7_handledShare) [some (pA a0)] [] h c s :=
  H
end VCS
theorem S_X7_meanWait {d b : Nat} {h0 h : PH} {D : Nat → Int → Int} {s : Int → Int} {t : Int} {Q : Int → PH → Prop} {X : Nat → PH → Prop} {N : Int} (M : Mt b h0 h D s t) (W : WD D s N)  (H : ∀ (x : Int) h', (tL D = 0 → x = (if s 4 = 0 then 0 else fddiv (fi2d (s 3)) (fi2d (s 4)))) → Mt b h0 h' D s (tL D) → Q x h') : RUN GQ (d + 3) m_X7_meanWait [pA b] h Q X := by
  obtain ⟨w1, w2, w3, wN, ws1, wI⟩ := id W
  have kL := tL_or D
  rw [e_X7_meanWait]
  refine WP.of (RUN.mono GQ _) (cuts := []) (n := 400) (v_X7_meanWait_0 _ _ _ _ ?_)
  refine ⟨M.k0, ?_⟩
  refine S_X7_notLoaded M W (fun x1 h1 e1 M1 => ?_)
  refine ⟨ir (by omega) (by omega), fun c4 => ?_, fun c4 => ?_⟩
  · obtain ⟨I, V, sw⟩ := wI (by omega)
    have e2 := I.cn (e := 2) (Or.inl ⟨by omega, by omega⟩)
    have e4 := I.cn (e := 4) (Or.inr (Or.inl ⟨by omega, by omega⟩))
    refine ⟨M1.k0, ?_⟩
    try rw [M1.r11]
    refine M1.ld6 (by omega) (by omega) (fun er => ?_)
    try rw [er]
    clear er
    refine ⟨ir (by omega) (by omega), fun c13 => ?_, fun c13 => ?_⟩
    · refine H _ _ (fun hT => ?_) (M1.castT (by omega))
      first
      | (rw [if_pos (by omega)]; done)
      | (rw [if_neg (by omega)]; done)
      | (exfalso; omega)
    · refine ⟨M1.k0, ?_⟩
      try rw [M1.r11]
      refine M1.ld6 (by omega) (by omega) (fun er => ?_)
      try rw [er]
      clear er
      refine ⟨M1.k0, ?_⟩
      try rw [M1.r11]
      refine M1.ld6 (by omega) (by omega) (fun er => ?_)
      try rw [er]
      clear er
      refine ⟨(by exact d_ok ⟨by omega, by omega⟩ (by omega)), ?_⟩
      refine H _ _ (fun hT => ?_) (M1.castT (by omega))
      first
      | (rw [if_pos (by omega)]; done)
      | (rw [if_neg (by omega)]; done)
      | (exfalso; omega)
  · refine H _ _ (fun hT => ?_) (M1.castT (by omega))
    first
    | (rw [if_pos (by omega)]; done)
    | (rw [if_neg (by omega)]; done)
    | (exfalso; omega)
theorem S_X7_handledShare {d b : Nat} {h0 h : PH} {D : Nat → Int → Int} {s : Int → Int} {t : Int} {Q : Int → PH → Prop} {X : Nat → PH → Prop} {N : Int} (M : Mt b h0 h D s t) (W : WD D s N)  (H : ∀ (x : Int) h', (tL D = 0 → x = (if s 2 = 0 then 0 else ffdiv (fi2f (s 4)) (fi2f (s 2)))) → Mt b h0 h' D s (tL D) → Q x h') : RUN GQ (d + 3) m_X7_handledShare [pA b] h Q X := by
  obtain ⟨w1, w2, w3, wN, ws1, wI⟩ := id W
  have kL := tL_or D
  rw [e_X7_handledShare]
  refine WP.of (RUN.mono GQ _) (cuts := []) (n := 400) (v_X7_handledShare_0 _ _ _ _ ?_)
  refine ⟨M.k0, ?_⟩
  refine S_X7_notLoaded M W (fun x1 h1 e1 M1 => ?_)
  refine ⟨ir (by omega) (by omega), fun c4 => ?_, fun c4 => ?_⟩
  · obtain ⟨I, V, sw⟩ := wI (by omega)
    have e2 := I.cn (e := 2) (Or.inl ⟨by omega, by omega⟩)
    have e4 := I.cn (e := 4) (Or.inr (Or.inl ⟨by omega, by omega⟩))
    refine ⟨M1.k0, ?_⟩
    try rw [M1.r11]
    refine M1.ld6 (by omega) (by omega) (fun er => ?_)
    try rw [er]
    clear er
    refine ⟨ir (by omega) (by omega), fun c13 => ?_, fun c13 => ?_⟩
    · refine H _ _ (fun hT => ?_) (M1.castT (by omega))
      first
      | (rw [if_pos (by omega)]; done)
      | (rw [if_neg (by omega)]; done)
      | (exfalso; omega)
    · refine ⟨M1.k0, ?_⟩
      try rw [M1.r11]
      refine M1.ld6 (by omega) (by omega) (fun er => ?_)
      try rw [er]
      clear er
      refine ⟨M1.k0, ?_⟩
      try rw [M1.r11]
      refine M1.ld6 (by omega) (by omega) (fun er => ?_)
      try rw [er]
      clear er
      refine ⟨(by exact f_ok ⟨by omega, by omega⟩ (by omega)), ?_⟩
      refine H _ _ (fun hT => ?_) (M1.castT (by omega))
      first
      | (rw [if_pos (by omega)]; done)
      | (rw [if_neg (by omega)]; done)
      | (exfalso; omega)
  · refine H _ _ (fun hT => ?_) (M1.castT (by omega))
    first
    | (rw [if_pos (by omega)]; done)
    | (rw [if_neg (by omega)]; done)
    | (exfalso; omega)
