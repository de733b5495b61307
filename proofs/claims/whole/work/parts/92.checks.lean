/-! the model's checks (written by wip/whole/tools/eng.py) -/
section VCS
variable {call : PC} {mc ms fr : Nat} {Q : Int → PH → Prop} {X : Nat → PH → Prop} {K : PK}
set_option maxRecDepth 100000 in
theorem v_X7_refuse_0 (a0 : Nat) (i1 : Int) (i2 : Int) (h : PH) (c s : Nat) (H : hk h a0 = 8 ∧ InR (hi h a0 0) ∧ ((hi h a0 0) = 0 →
 InR i1 ∧ (i1 = 0 →
 hk h a0 = 8 ∧ InR (hi h a0 0) ∧ ((hi h a0 0) = 0 →
 ((0 : Int) = 0 ∨ (0 : Int) = 1) ∧ Q 0 h) ∧
((hi h a0 0) ≠ 0 →
 ((1 : Int) = 0 ∨ (1 : Int) = 1) ∧ Q 1 h)) ∧
(i1 ≠ 0 →
 hk h a0 = 8 ∧ ∀ h1, h1 = hsi h a0 0 i2 →
 hk h1 a0 = 8 ∧ InR (hi h1 a0 0) ∧ ((hi h1 a0 0) = 0 →
 ((0 : Int) = 0 ∨ (0 : Int) = 1) ∧ Q 0 h1) ∧
((hi h1 a0 0) ≠ 0 →
 ((1 : Int) = 0 ∨ (1 : Int) = 1) ∧ Q 1 h1))) ∧
((hi h a0 0) ≠ 0 →
 hk h a0 = 8 ∧ InR (hi h a0 0) ∧ ((hi h a0 0) = 0 →
 ((0 : Int) = 0 ∨ (0 : Int) = 1) ∧ Q 0 h) ∧
((hi h a0 0) ≠ 0 →
 ((1 : Int) = 0 ∨ (1 : Int) = 1) ∧ Q 1 h))) : wpc k_X7_refuse [] call mc ms fr Q X [] K 400 (pto 0 k_X7_refuse) [some (pA a0), some (pI i1), some (pI i2)] [] h c s :=
  H
set_option maxRecDepth 100000 in
theorem v_X7_notLoaded_0 (a0 : Nat) (h : PH) (c s : Nat) (H : hk h a0 = 8 ∧ ∀ h1, h1 = hsi h a0 0 0 →
 hk h1 a0 = 8 ∧ InR (hi h1 a0 1) ∧ ((hi h1 a0 1) = 0 →
 hk h1 a0 = 8 ∧ call m_X7_refuse [pA a0, pI 1, pI 1] h1 (fun x2 h2 =>
 (x2 = 0 ∨ x2 = 1) ∧ Q x2 h2) X) ∧
((hi h1 a0 1) ≠ 0 →
 hk h1 a0 = 8 ∧ call m_X7_refuse [pA a0, pI 0, pI 1] h1 (fun x3 h3 =>
 (x3 = 0 ∨ x3 = 1) ∧ Q x3 h3) X)) : wpc k_X7_notLoaded [] call mc ms fr Q X [] K 400 (pto 0 k_X7_notLoaded) [some (pA a0)] [] h c s :=
  H
set_option maxRecDepth 100000 in
theorem v_X7_isKind_0 (a0 : Nat) (i1 : Int) (h : PH) (c s : Nat) (H : hk h a0 = 8 ∧ call m_X7_in [pI i1, pI 0, pI ((hi h a0 3) - 1)] h (fun x1 h1 =>
 (x1 = 0 ∨ x1 = 1) ∧ Q x1 h1) X) : wpc k_X7_isKind [] call mc ms fr Q X [] K 400 (pto 0 k_X7_isKind) [some (pA a0), some (pI i1)] [] h c s :=
  H
set_option maxRecDepth 100000 in
theorem v_X7_isProgram_0 (a0 : Nat) (i1 : Int) (h : PH) (c s : Nat) (H : hk h a0 = 8 ∧ call m_X7_in [pI i1, pI 0, pI ((hi h a0 4) - 1)] h (fun x1 h1 =>
 (x1 = 0 ∨ x1 = 1) ∧ Q x1 h1) X) : wpc k_X7_isProgram [] call mc ms fr Q X [] K 400 (pto 0 k_X7_isProgram) [some (pA a0), some (pI i1)] [] h c s :=
  H
set_option maxRecDepth 100000 in
theorem v_X7_noKind_0 (a0 : Nat) (i1 : Int) (h : PH) (c s : Nat) (H : hk h a0 = 8 ∧ call m_X7_notLoaded [pA a0] h (fun x1 h1 =>
 InR x1 ∧ (x1 = 0 →
 hk h1 a0 = 8 ∧ call m_X7_isKind [pA a0, pI i1] h1 (fun x2 h2 =>
 InR x2 ∧ (x2 = 0 →
 hk h2 a0 = 8 ∧ call m_X7_refuse [pA a0, pI 1, pI 2] h2 (fun x3 h3 =>
 InR x3 ∧ (x3 = 0 →
 ((0 : Int) = 0 ∨ (0 : Int) = 1) ∧ Q 0 h3) ∧
(x3 ≠ 0 →
 ((1 : Int) = 0 ∨ (1 : Int) = 1) ∧ Q 1 h3)) X) ∧
(x2 ≠ 0 →
 hk h2 a0 = 8 ∧ call m_X7_refuse [pA a0, pI 0, pI 2] h2 (fun x4 h4 =>
 InR x4 ∧ (x4 = 0 →
 ((0 : Int) = 0 ∨ (0 : Int) = 1) ∧ Q 0 h4) ∧
(x4 ≠ 0 →
 ((1 : Int) = 0 ∨ (1 : Int) = 1) ∧ Q 1 h4)) X)) X) ∧
(x1 ≠ 0 →
 ((1 : Int) = 0 ∨ (1 : Int) = 1) ∧ Q 1 h1)) X) : wpc k_X7_noKind [] call mc ms fr Q X [] K 400 (pto 0 k_X7_noKind) [some (pA a0), some (pI i1)] [] h c s :=
  H
set_option maxRecDepth 100000 in
theorem v_X7_noProgram_0 (a0 : Nat) (i1 : Int) (h : PH) (c s : Nat) (H : hk h a0 = 8 ∧ call m_X7_notLoaded [pA a0] h (fun x1 h1 =>
 InR x1 ∧ (x1 = 0 →
 hk h1 a0 = 8 ∧ call m_X7_isProgram [pA a0, pI i1] h1 (fun x2 h2 =>
 InR x2 ∧ (x2 = 0 →
 hk h2 a0 = 8 ∧ call m_X7_refuse [pA a0, pI 1, pI 2] h2 (fun x3 h3 =>
 InR x3 ∧ (x3 = 0 →
 ((0 : Int) = 0 ∨ (0 : Int) = 1) ∧ Q 0 h3) ∧
(x3 ≠ 0 →
 ((1 : Int) = 0 ∨ (1 : Int) = 1) ∧ Q 1 h3)) X) ∧
(x2 ≠ 0 →
 hk h2 a0 = 8 ∧ call m_X7_refuse [pA a0, pI 0, pI 2] h2 (fun x4 h4 =>
 InR x4 ∧ (x4 = 0 →
 ((0 : Int) = 0 ∨ (0 : Int) = 1) ∧ Q 0 h4) ∧
(x4 ≠ 0 →
 ((1 : Int) = 0 ∨ (1 : Int) = 1) ∧ Q 1 h4)) X)) X) ∧
(x1 ≠ 0 →
 ((1 : Int) = 0 ∨ (1 : Int) = 1) ∧ Q 1 h1)) X) : wpc k_X7_noProgram [] call mc ms fr Q X [] K 400 (pto 0 k_X7_noProgram) [some (pA a0), some (pI i1)] [] h c s :=
  H
set_option maxRecDepth 100000 in
theorem v_X7_noPair_0 (a0 : Nat) (i1 : Int) (i2 : Int) (h : PH) (c s : Nat) (H : hk h a0 = 8 ∧ call m_X7_noProgram [pA a0, pI i1] h (fun x1 h1 =>
 InR x1 ∧ (x1 = 0 →
 hk h1 a0 = 8 ∧ call m_X7_isKind [pA a0, pI i2] h1 (fun x2 h2 =>
 InR x2 ∧ (x2 = 0 →
 hk h2 a0 = 8 ∧ call m_X7_refuse [pA a0, pI 1, pI 2] h2 (fun x3 h3 =>
 InR x3 ∧ (x3 = 0 →
 ((0 : Int) = 0 ∨ (0 : Int) = 1) ∧ Q 0 h3) ∧
(x3 ≠ 0 →
 ((1 : Int) = 0 ∨ (1 : Int) = 1) ∧ Q 1 h3)) X) ∧
(x2 ≠ 0 →
 hk h2 a0 = 8 ∧ call m_X7_refuse [pA a0, pI 0, pI 2] h2 (fun x4 h4 =>
 InR x4 ∧ (x4 = 0 →
 ((0 : Int) = 0 ∨ (0 : Int) = 1) ∧ Q 0 h4) ∧
(x4 ≠ 0 →
 ((1 : Int) = 0 ∨ (1 : Int) = 1) ∧ Q 1 h4)) X)) X) ∧
(x1 ≠ 0 →
 ((1 : Int) = 0 ∨ (1 : Int) = 1) ∧ Q 1 h1)) X) : wpc k_X7_noPair [] call mc ms fr Q X [] K 400 (pto 0 k_X7_noPair) [some (pA a0), some (pI i1), some (pI i2)] [] h c s :=
  H
set_option maxRecDepth 100000 in
theorem v_X7_noSignal_0 (a0 : Nat) (i1 : Int) (h : PH) (c s : Nat) (H : hk h a0 = 8 ∧ call m_X7_notLoaded [pA a0] h (fun x1 h1 =>
 InR x1 ∧ (x1 = 0 →
 hk h1 a0 = 8 ∧ (hk h1 (hr h1 a0 11) = 20 ∨ hk h1 (hr h1 a0 11) = 26) ∧ (0 ≤ (1 : Int) ∧ (1 : Int) < (hl h1 (hr h1 a0 11) : Int)) ∧ call m_X7_in [pI i1, pI 0, pI ((hi h1 (hr h1 a0 11) (Int.toNat (1 : Int))) - 1)] h1 (fun x2 h2 =>
 InR x2 ∧ (x2 = 0 →
 hk h2 a0 = 8 ∧ call m_X7_refuse [pA a0, pI 1, pI 2] h2 (fun x3 h3 =>
 InR x3 ∧ (x3 = 0 →
 ((0 : Int) = 0 ∨ (0 : Int) = 1) ∧ Q 0 h3) ∧
(x3 ≠ 0 →
 ((1 : Int) = 0 ∨ (1 : Int) = 1) ∧ Q 1 h3)) X) ∧
(x2 ≠ 0 →
 hk h2 a0 = 8 ∧ call m_X7_refuse [pA a0, pI 0, pI 2] h2 (fun x4 h4 =>
 InR x4 ∧ (x4 = 0 →
 ((0 : Int) = 0 ∨ (0 : Int) = 1) ∧ Q 0 h4) ∧
(x4 ≠ 0 →
 ((1 : Int) = 0 ∨ (1 : Int) = 1) ∧ Q 1 h4)) X)) X) ∧
(x1 ≠ 0 →
 ((1 : Int) = 0 ∨ (1 : Int) = 1) ∧ Q 1 h1)) X) : wpc k_X7_noSignal [] call mc ms fr Q X [] K 400 (pto 0 k_X7_noSignal) [some (pA a0), some (pI i1)] [] h c s :=
  H
end VCS
theorem S_X7_refuse {d b : Nat} {h0 h : PH} {D : Nat → Int → Int} {s : Int → Int} {t : Int} {Q : Int → PH → Prop} {X : Nat → PH → Prop} {z c : Int} (M : Mt b h0 h D s t) (hz : z = 0 ∨ z = 1) (hc : 1 ≤ c ∧ c ≤ 3) (ht : 0 ≤ t ∧ t ≤ 3) (H : ∀ (x : Int) h' t', x = 0 ∧ t = 0 ∧ z = 0 ∧ t' = 0 ∨ x = 1 ∧ t ≠ 0 ∧ t' = t ∨ x = 1 ∧ t = 0 ∧ z = 1 ∧ t' = c → Mt b h0 h' D s t' → Q x h') : RUN GQ (d + 1) m_X7_refuse [pA b, pI z, pI c] h Q X := by
  rw [e_X7_refuse]
  refine WP.of (RUN.mono GQ _) (cuts := []) (n := 400) (v_X7_refuse_0 _ _ _ _ _ _ ?_)
  refine ⟨M.k0, ?_⟩
  try rw [M.f0]
  refine ⟨ir (by omega) (by omega), fun c4 => ?_, fun c4 => ?_⟩
  · refine ⟨ir (by omega) (by omega), fun c8 => ?_, fun c8 => ?_⟩
    · refine ⟨M.k0, ?_⟩
      try rw [M.f0]
      refine ⟨ir (by omega) (by omega), fun c20 => ?_, fun c20 => ?_⟩
      · refine ⟨(by omega), ?_⟩
        first
        | (exfalso; omega)
        | (refine H _ _ _ ?_ M
           omega)
      · refine ⟨(by omega), ?_⟩
        first
        | (exfalso; omega)
        | (refine H _ _ _ ?_ M
           omega)
    · refine M.p0 (fun h13 M13 => ?_)
      refine ⟨M13.k0, ?_⟩
      try rw [M13.f0]
      refine ⟨ir (by omega) (by omega), fun c20 => ?_, fun c20 => ?_⟩
      · refine ⟨(by omega), ?_⟩
        first
        | (exfalso; omega)
        | (refine H _ _ _ ?_ M13
           omega)
      · refine ⟨(by omega), ?_⟩
        first
        | (exfalso; omega)
        | (refine H _ _ _ ?_ M13
           omega)
  · refine ⟨M.k0, ?_⟩
    try rw [M.f0]
    refine ⟨ir (by omega) (by omega), fun c20 => ?_, fun c20 => ?_⟩
    · refine ⟨(by omega), ?_⟩
      first
      | (exfalso; omega)
      | (refine H _ _ _ ?_ M
         omega)
    · refine ⟨(by omega), ?_⟩
      first
      | (exfalso; omega)
      | (refine H _ _ _ ?_ M
         omega)
theorem S_X7_notLoaded {d b : Nat} {h0 h : PH} {D : Nat → Int → Int} {s : Int → Int} {t : Int} {Q : Int → PH → Prop} {X : Nat → PH → Prop} {N : Int} (M : Mt b h0 h D s t) (W : WD D s N)  (H : ∀ (x : Int) h', x = 0 ∧ tL D = 0 ∨ x = 1 ∧ tL D ≠ 0 → Mt b h0 h' D s (tL D) → Q x h') : RUN GQ (d + 2) m_X7_notLoaded [pA b] h Q X := by
  obtain ⟨w1, w2, w3, wN, ws1, wI⟩ := id W
  have kL := tL_or D
  rw [e_X7_notLoaded]
  refine WP.of (RUN.mono GQ _) (cuts := []) (n := 400) (v_X7_notLoaded_0 _ _ _ _ ?_)
  refine M.p0 (fun h2 M2 => ?_)
  refine ⟨M2.k0, ?_⟩
  try rw [M2.f1]
  refine ⟨ir (by omega) (by omega), fun c10 => ?_, fun c10 => ?_⟩
  · refine ⟨M2.k0, ?_⟩
    refine S_X7_refuse M2 (by omega) (by omega) (by omega) (fun x19 h19 t19 e19 M19 => ?_)
    refine ⟨(by omega), ?_⟩
    refine H _ _ (by omega) (M19.castT (by omega))
  · refine ⟨M2.k0, ?_⟩
    refine S_X7_refuse M2 (by omega) (by omega) (by omega) (fun x19 h19 t19 e19 M19 => ?_)
    refine ⟨(by omega), ?_⟩
    refine H _ _ (by omega) (M19.castT (by omega))
theorem S_X7_isKind {d b : Nat} {h0 h : PH} {D : Nat → Int → Int} {s : Int → Int} {t : Int} {Q : Int → PH → Prop} {X : Nat → PH → Prop} {N : Int} {k : Int} (M : Mt b h0 h D s t) (W : WD D s N) (hvk : InR k) (H : ∀ x : Int, x = 1 ∧ 0 ≤ k ∧ k ≤ D 0 3 - 1 ∨ x = 0 ∧ ¬ (0 ≤ k ∧ k ≤ D 0 3 - 1) → Q x h) : RUN GQ (d + 2) m_X7_isKind [pA b, pI k] h Q X := by
  obtain ⟨w1, w2, w3, wN, ws1, wI⟩ := id W
  have kL := tL_or D
  rw [e_X7_isKind]
  refine WP.of (RUN.mono GQ _) (cuts := []) (n := 400) (v_X7_isKind_0 _ _ _ _ _ ?_)
  refine ⟨M.k0, ?_⟩
  try rw [M.f3]
  refine S_X7_inB (by omega) (by omega) (by omega) (fun x8 e8 => ?_)
  refine ⟨(by omega), ?_⟩
  exact H _ e8
theorem S_X7_isProgram {d b : Nat} {h0 h : PH} {D : Nat → Int → Int} {s : Int → Int} {t : Int} {Q : Int → PH → Prop} {X : Nat → PH → Prop} {N : Int} {k : Int} (M : Mt b h0 h D s t) (W : WD D s N) (hvk : InR k) (H : ∀ x : Int, x = 1 ∧ 0 ≤ k ∧ k ≤ D 0 4 - 1 ∨ x = 0 ∧ ¬ (0 ≤ k ∧ k ≤ D 0 4 - 1) → Q x h) : RUN GQ (d + 2) m_X7_isProgram [pA b, pI k] h Q X := by
  obtain ⟨w1, w2, w3, wN, ws1, wI⟩ := id W
  have kL := tL_or D
  rw [e_X7_isProgram]
  refine WP.of (RUN.mono GQ _) (cuts := []) (n := 400) (v_X7_isProgram_0 _ _ _ _ _ ?_)
  refine ⟨M.k0, ?_⟩
  try rw [M.f4]
  refine S_X7_inB (by omega) (by omega) (by omega) (fun x8 e8 => ?_)
  refine ⟨(by omega), ?_⟩
  exact H _ e8
theorem S_X7_noKind {d b : Nat} {h0 h : PH} {D : Nat → Int → Int} {s : Int → Int} {t : Int} {Q : Int → PH → Prop} {X : Nat → PH → Prop} {N : Int} {k : Int} (M : Mt b h0 h D s t) (W : WD D s N) (hvk : InR k) (H : ∀ (x : Int) h', x = 0 ∧ ck (tL D) k 0 (D 0 3 - 1) 2 = 0 ∨ x = 1 ∧ ck (tL D) k 0 (D 0 3 - 1) 2 ≠ 0 → Mt b h0 h' D s (ck (tL D) k 0 (D 0 3 - 1) 2) → Q x h') : RUN GQ (d + 3) m_X7_noKind [pA b, pI k] h Q X := by
  obtain ⟨w1, w2, w3, wN, ws1, wI⟩ := id W
  have kL := tL_or D
  have k1 := ck_or (tL D) k 0 (D 0 3 - 1) 2
  rw [e_X7_noKind]
  refine WP.of (RUN.mono GQ _) (cuts := []) (n := 400) (v_X7_noKind_0 _ _ _ _ _ ?_)
  refine ⟨M.k0, ?_⟩
  refine S_X7_notLoaded M W (fun x1 h1 e1 M1 => ?_)
  refine ⟨ir (by omega) (by omega), fun c4 => ?_, fun c4 => ?_⟩
  · refine ⟨M1.k0, ?_⟩
    refine S_X7_isKind M1 W (by omega) (fun x10 e10 => ?_)
    refine ⟨ir (by omega) (by omega), fun c13 => ?_, fun c13 => ?_⟩
    · refine ⟨M1.k0, ?_⟩
      refine S_X7_refuse M1 (by omega) (by omega) (by omega) (fun x22 h22 t22 e22 M22 => ?_)
      refine ⟨ir (by omega) (by omega), fun c25 => ?_, fun c25 => ?_⟩
      · refine ⟨(by omega), ?_⟩
        refine H _ _ (by omega) (M22.castT (by omega))
      · refine ⟨(by omega), ?_⟩
        refine H _ _ (by omega) (M22.castT (by omega))
    · refine ⟨M1.k0, ?_⟩
      refine S_X7_refuse M1 (by omega) (by omega) (by omega) (fun x22 h22 t22 e22 M22 => ?_)
      refine ⟨ir (by omega) (by omega), fun c25 => ?_, fun c25 => ?_⟩
      · refine ⟨(by omega), ?_⟩
        refine H _ _ (by omega) (M22.castT (by omega))
      · refine ⟨(by omega), ?_⟩
        refine H _ _ (by omega) (M22.castT (by omega))
  · refine ⟨(by omega), ?_⟩
    refine H _ _ (by omega) (M1.castT (by omega))
theorem S_X7_noProgram {d b : Nat} {h0 h : PH} {D : Nat → Int → Int} {s : Int → Int} {t : Int} {Q : Int → PH → Prop} {X : Nat → PH → Prop} {N : Int} {p : Int} (M : Mt b h0 h D s t) (W : WD D s N) (hvp : InR p) (H : ∀ (x : Int) h', x = 0 ∧ ck (tL D) p 0 (D 0 4 - 1) 2 = 0 ∨ x = 1 ∧ ck (tL D) p 0 (D 0 4 - 1) 2 ≠ 0 → Mt b h0 h' D s (ck (tL D) p 0 (D 0 4 - 1) 2) → Q x h') : RUN GQ (d + 3) m_X7_noProgram [pA b, pI p] h Q X := by
  obtain ⟨w1, w2, w3, wN, ws1, wI⟩ := id W
  have kL := tL_or D
  have k1 := ck_or (tL D) p 0 (D 0 4 - 1) 2
  rw [e_X7_noProgram]
  refine WP.of (RUN.mono GQ _) (cuts := []) (n := 400) (v_X7_noProgram_0 _ _ _ _ _ ?_)
  refine ⟨M.k0, ?_⟩
  refine S_X7_notLoaded M W (fun x1 h1 e1 M1 => ?_)
  refine ⟨ir (by omega) (by omega), fun c4 => ?_, fun c4 => ?_⟩
  · refine ⟨M1.k0, ?_⟩
    refine S_X7_isProgram M1 W (by omega) (fun x10 e10 => ?_)
    refine ⟨ir (by omega) (by omega), fun c13 => ?_, fun c13 => ?_⟩
    · refine ⟨M1.k0, ?_⟩
      refine S_X7_refuse M1 (by omega) (by omega) (by omega) (fun x22 h22 t22 e22 M22 => ?_)
      refine ⟨ir (by omega) (by omega), fun c25 => ?_, fun c25 => ?_⟩
      · refine ⟨(by omega), ?_⟩
        refine H _ _ (by omega) (M22.castT (by omega))
      · refine ⟨(by omega), ?_⟩
        refine H _ _ (by omega) (M22.castT (by omega))
    · refine ⟨M1.k0, ?_⟩
      refine S_X7_refuse M1 (by omega) (by omega) (by omega) (fun x22 h22 t22 e22 M22 => ?_)
      refine ⟨ir (by omega) (by omega), fun c25 => ?_, fun c25 => ?_⟩
      · refine ⟨(by omega), ?_⟩
        refine H _ _ (by omega) (M22.castT (by omega))
      · refine ⟨(by omega), ?_⟩
        refine H _ _ (by omega) (M22.castT (by omega))
  · refine ⟨(by omega), ?_⟩
    refine H _ _ (by omega) (M1.castT (by omega))
theorem S_X7_noPair {d b : Nat} {h0 h : PH} {D : Nat → Int → Int} {s : Int → Int} {t : Int} {Q : Int → PH → Prop} {X : Nat → PH → Prop} {N : Int} {p k : Int} (M : Mt b h0 h D s t) (W : WD D s N) (hvp : InR p) (hvk : InR k) (H : ∀ (x : Int) h', x = 0 ∧ ck (ck (tL D) p 0 (D 0 4 - 1) 2) k 0 (D 0 3 - 1) 2 = 0 ∨ x = 1 ∧ ck (ck (tL D) p 0 (D 0 4 - 1) 2) k 0 (D 0 3 - 1) 2 ≠ 0 → Mt b h0 h' D s (ck (ck (tL D) p 0 (D 0 4 - 1) 2) k 0 (D 0 3 - 1) 2) → Q x h') : RUN GQ (d + 4) m_X7_noPair [pA b, pI p, pI k] h Q X := by
  obtain ⟨w1, w2, w3, wN, ws1, wI⟩ := id W
  have kL := tL_or D
  have k1 := ck_or (tL D) p 0 (D 0 4 - 1) 2
  have k2 := ck_or (ck (tL D) p 0 (D 0 4 - 1) 2) k 0 (D 0 3 - 1) 2
  rw [e_X7_noPair]
  refine WP.of (RUN.mono GQ _) (cuts := []) (n := 400) (v_X7_noPair_0 _ _ _ _ _ _ ?_)
  refine ⟨M.k0, ?_⟩
  refine S_X7_noProgram M W (by omega) (fun x2 h2 e2 M2 => ?_)
  refine ⟨ir (by omega) (by omega), fun c5 => ?_, fun c5 => ?_⟩
  · refine ⟨M2.k0, ?_⟩
    refine S_X7_isKind M2 W (by omega) (fun x11 e11 => ?_)
    refine ⟨ir (by omega) (by omega), fun c14 => ?_, fun c14 => ?_⟩
    · refine ⟨M2.k0, ?_⟩
      refine S_X7_refuse M2 (by omega) (by omega) (by omega) (fun x23 h23 t23 e23 M23 => ?_)
      refine ⟨ir (by omega) (by omega), fun c26 => ?_, fun c26 => ?_⟩
      · refine ⟨(by omega), ?_⟩
        refine H _ _ (by omega) (M23.castT (by omega))
      · refine ⟨(by omega), ?_⟩
        refine H _ _ (by omega) (M23.castT (by omega))
    · refine ⟨M2.k0, ?_⟩
      refine S_X7_refuse M2 (by omega) (by omega) (by omega) (fun x23 h23 t23 e23 M23 => ?_)
      refine ⟨ir (by omega) (by omega), fun c26 => ?_, fun c26 => ?_⟩
      · refine ⟨(by omega), ?_⟩
        refine H _ _ (by omega) (M23.castT (by omega))
      · refine ⟨(by omega), ?_⟩
        refine H _ _ (by omega) (M23.castT (by omega))
  · refine ⟨(by omega), ?_⟩
    refine H _ _ (by omega) (M2.castT (by omega))
theorem S_X7_noSignal {d b : Nat} {h0 h : PH} {D : Nat → Int → Int} {s : Int → Int} {t : Int} {Q : Int → PH → Prop} {X : Nat → PH → Prop} {N : Int} {g : Int} (M : Mt b h0 h D s t) (W : WD D s N) (hvg : InR g) (H : ∀ (x : Int) h', x = 0 ∧ ck (tL D) g 0 (s 1 - 1) 2 = 0 ∨ x = 1 ∧ ck (tL D) g 0 (s 1 - 1) 2 ≠ 0 → Mt b h0 h' D s (ck (tL D) g 0 (s 1 - 1) 2) → Q x h') : RUN GQ (d + 3) m_X7_noSignal [pA b, pI g] h Q X := by
  obtain ⟨w1, w2, w3, wN, ws1, wI⟩ := id W
  have kL := tL_or D
  have k1 := ck_or (tL D) g 0 (s 1 - 1) 2
  rw [e_X7_noSignal]
  refine WP.of (RUN.mono GQ _) (cuts := []) (n := 400) (v_X7_noSignal_0 _ _ _ _ _ ?_)
  refine ⟨M.k0, ?_⟩
  refine S_X7_notLoaded M W (fun x1 h1 e1 M1 => ?_)
  refine ⟨ir (by omega) (by omega), fun c4 => ?_, fun c4 => ?_⟩
  · refine ⟨M1.k0, ?_⟩
    try rw [M1.r11]
    refine M1.ld6 (by omega) (by omega) (fun er => ?_)
    try rw [er]
    clear er
    refine S_X7_inB (by omega) (by omega) (by omega) (fun x18 e18 => ?_)
    refine ⟨ir (by omega) (by omega), fun c21 => ?_, fun c21 => ?_⟩
    · refine ⟨M1.k0, ?_⟩
      refine S_X7_refuse M1 (by omega) (by omega) (by omega) (fun x30 h30 t30 e30 M30 => ?_)
      refine ⟨ir (by omega) (by omega), fun c33 => ?_, fun c33 => ?_⟩
      · refine ⟨(by omega), ?_⟩
        refine H _ _ (by omega) (M30.castT (by omega))
      · refine ⟨(by omega), ?_⟩
        refine H _ _ (by omega) (M30.castT (by omega))
    · refine ⟨M1.k0, ?_⟩
      refine S_X7_refuse M1 (by omega) (by omega) (by omega) (fun x30 h30 t30 e30 M30 => ?_)
      refine ⟨ir (by omega) (by omega), fun c33 => ?_, fun c33 => ?_⟩
      · refine ⟨(by omega), ?_⟩
        refine H _ _ (by omega) (M30.castT (by omega))
      · refine ⟨(by omega), ?_⟩
        refine H _ _ (by omega) (M30.castT (by omega))
  · refine ⟨(by omega), ?_⟩
    refine H _ _ (by omega) (M1.castT (by omega))
