/-! the model keeps (written by wip/whole/tools/eng.py) -/
section VCS
variable {call : PC} {mc ms fr : Nat} {Q : Int → PH → Prop} {X : Nat → PH → Prop} {K : PK}
set_option maxRecDepth 100000 in
theorem v_X7_putsAside_0 (a0 : Nat) (z1 : Option PV) (h : PH) (c s : Nat) (H : K 2 [some (pA a0), some (pI 0)] [] h c s) : wpc k_X7_putsAside [] call mc ms fr Q X [2] K 400 (pto 0 k_X7_putsAside) [some (pA a0), z1] [] h c s :=
  H
set_option maxRecDepth 100000 in
theorem v_X7_putsAside_2 (a0 : Nat) (i1 : Int) (h : PH) (c s : Nat) (H : InR i1 ∧ InR 861 ∧ (i1 < 861 →
 hk h a0 = 8 ∧ hk h a0 = 8 ∧ (hk h (hr h a0 11) = 20 ∨ hk h (hr h a0 11) = 26) ∧ (0 ≤ i1 ∧ i1 < (hl h (hr h a0 11) : Int)) ∧ hk h (hr h a0 12) = 20 ∧ (0 ≤ i1 ∧ i1 < (hl h (hr h a0 12) : Int)) ∧ ∀ h1, h1 = hsi h (hr h a0 12) (Int.toNat i1) (hi h (hr h a0 11) (Int.toNat i1)) →
 K 2 [some (pA a0), some (pI (i1 + 1))] [] h1 c s) ∧
(861 ≤ i1 →
 Q 0 h)) : wpc k_X7_putsAside [] call mc ms fr Q X [2] K 400 (pto 2 k_X7_putsAside) [some (pA a0), some (pI i1)] [] h c s :=
  H
set_option maxRecDepth 100000 in
theorem v_X7_fetchesBack_0 (a0 : Nat) (z1 : Option PV) (h : PH) (c s : Nat) (H : K 2 [some (pA a0), some (pI 0)] [] h c s) : wpc k_X7_fetchesBack [] call mc ms fr Q X [2] K 400 (pto 0 k_X7_fetchesBack) [some (pA a0), z1] [] h c s :=
  H
set_option maxRecDepth 100000 in
theorem v_X7_fetchesBack_2 (a0 : Nat) (i1 : Int) (h : PH) (c s : Nat) (H : InR i1 ∧ InR 861 ∧ (i1 < 861 →
 hk h a0 = 8 ∧ hk h a0 = 8 ∧ (hk h (hr h a0 12) = 20 ∨ hk h (hr h a0 12) = 26) ∧ (0 ≤ i1 ∧ i1 < (hl h (hr h a0 12) : Int)) ∧ hk h (hr h a0 11) = 20 ∧ (0 ≤ i1 ∧ i1 < (hl h (hr h a0 11) : Int)) ∧ ∀ h1, h1 = hsi h (hr h a0 11) (Int.toNat i1) (hi h (hr h a0 12) (Int.toNat i1)) →
 K 2 [some (pA a0), some (pI (i1 + 1))] [] h1 c s) ∧
(861 ≤ i1 →
 Q 0 h)) : wpc k_X7_fetchesBack [] call mc ms fr Q X [2] K 400 (pto 2 k_X7_fetchesBack) [some (pA a0), some (pI i1)] [] h c s :=
  H
set_option maxRecDepth 100000 in
theorem v_X7_keeps_0 (a0 : Nat) (i1 : Int) (z2 : Option PV) (h : PH) (c s : Nat) (H : K 2 [some (pA a0), some (pI i1), some (pI 0)] [] h c s) : wpc k_X7_keeps [] call mc ms fr Q X [2] K 400 (pto 0 k_X7_keeps) [some (pA a0), some (pI i1), z2] [] h c s :=
  H
set_option maxRecDepth 100000 in
theorem v_X7_keeps_2 (a0 : Nat) (i1 : Int) (i2 : Int) (h : PH) (c s : Nat) (H : InR i2 ∧ InR 861 ∧ (i2 < 861 →
 hk h a0 = 8 ∧ hk h a0 = 8 ∧ (hk h (hr h a0 11) = 20 ∨ hk h (hr h a0 11) = 26) ∧ (0 ≤ i2 ∧ i2 < (hl h (hr h a0 11) : Int)) ∧ hk h (hr h a0 13) = 20 ∧ (0 ≤ ((861 * i1) + i2) ∧ ((861 * i1) + i2) < (hl h (hr h a0 13) : Int)) ∧ ∀ h1, h1 = hsi h (hr h a0 13) (Int.toNat (((861 * i1) + i2))) (hi h (hr h a0 11) (Int.toNat i2)) →
 K 2 [some (pA a0), some (pI i1), some (pI (i2 + 1))] [] h1 c s) ∧
(861 ≤ i2 →
 Q 0 h)) : wpc k_X7_keeps [] call mc ms fr Q X [2] K 400 (pto 2 k_X7_keeps) [some (pA a0), some (pI i1), some (pI i2)] [] h c s :=
  H
set_option maxRecDepth 100000 in
theorem v_X7_fetches_0 (a0 : Nat) (i1 : Int) (z2 : Option PV) (h : PH) (c s : Nat) (H : K 2 [some (pA a0), some (pI i1), some (pI 0)] [] h c s) : wpc k_X7_fetches [] call mc ms fr Q X [2] K 400 (pto 0 k_X7_fetches) [some (pA a0), some (pI i1), z2] [] h c s :=
  H
set_option maxRecDepth 100000 in
theorem v_X7_fetches_2 (a0 : Nat) (i1 : Int) (i2 : Int) (h : PH) (c s : Nat) (H : InR i2 ∧ InR 861 ∧ (i2 < 861 →
 hk h a0 = 8 ∧ hk h a0 = 8 ∧ (hk h (hr h a0 13) = 20 ∨ hk h (hr h a0 13) = 26) ∧ (0 ≤ ((861 * i1) + i2) ∧ ((861 * i1) + i2) < (hl h (hr h a0 13) : Int)) ∧ hk h (hr h a0 11) = 20 ∧ (0 ≤ i2 ∧ i2 < (hl h (hr h a0 11) : Int)) ∧ ∀ h1, h1 = hsi h (hr h a0 11) (Int.toNat i2) (hi h (hr h a0 13) (Int.toNat (((861 * i1) + i2)))) →
 K 2 [some (pA a0), some (pI i1), some (pI (i2 + 1))] [] h1 c s) ∧
(861 ≤ i2 →
 Q 0 h)) : wpc k_X7_fetches [] call mc ms fr Q X [2] K 400 (pto 2 k_X7_fetches) [some (pA a0), some (pI i1), some (pI i2)] [] h c s :=
  H
set_option maxRecDepth 100000 in
theorem v_X7_keepsAll_0 (a0 : Nat) (z1 : Option PV) (h : PH) (c s : Nat) (H : hk h a0 = 8 ∧ InR (hi h a0 14) ∧ InR 8 ∧ ((hi h a0 14) = 8 →
 K 11 [some (pA a0), some (pI 0)] [] h c s) ∧
((hi h a0 14) ≠ 8 →
 hk h a0 = 8 ∧ hk h a0 = 8 ∧ call m_X7_keeps [pA a0, pI (0 + (hi h a0 14))] h (fun _ h1 =>
 hk h1 a0 = 8 ∧ hk h1 a0 = 8 ∧ ∀ h2, h2 = hsi h1 a0 14 ((hi h1 a0 14) + 1) →
 Q 0 h2) X)) : wpc k_X7_keepsAll [] call mc ms fr Q X [11] K 400 (pto 0 k_X7_keepsAll) [some (pA a0), z1] [] h c s :=
  H
set_option maxRecDepth 100000 in
theorem v_X7_keepsAll_11 (a0 : Nat) (i1 : Int) (h : PH) (c s : Nat) (H : InR i1 ∧ InR 6027 ∧ (i1 < 6027 →
 hk h a0 = 8 ∧ hk h a0 = 8 ∧ (hk h (hr h a0 13) = 20 ∨ hk h (hr h a0 13) = 26) ∧ (0 ≤ (i1 + 861) ∧ (i1 + 861) < (hl h (hr h a0 13) : Int)) ∧ hk h (hr h a0 13) = 20 ∧ (0 ≤ i1 ∧ i1 < (hl h (hr h a0 13) : Int)) ∧ ∀ h1, h1 = hsi h (hr h a0 13) (Int.toNat i1) (hi h (hr h a0 13) (Int.toNat ((i1 + 861)))) →
 K 11 [some (pA a0), some (pI (i1 + 1))] [] h1 c s) ∧
(6027 ≤ i1 →
 hk h a0 = 8 ∧ hk h a0 = 8 ∧ ∀ h2, h2 = hsi h a0 14 ((hi h a0 14) - 1) →
 hk h2 a0 = 8 ∧ hk h2 a0 = 8 ∧ call m_X7_keeps [pA a0, pI (0 + (hi h2 a0 14))] h2 (fun _ h3 =>
 hk h3 a0 = 8 ∧ hk h3 a0 = 8 ∧ ∀ h4, h4 = hsi h3 a0 14 ((hi h3 a0 14) + 1) →
 Q 0 h4) X)) : wpc k_X7_keepsAll [] call mc ms fr Q X [11] K 400 (pto 11 k_X7_keepsAll) [some (pA a0), some (pI i1)] [] h c s :=
  H
end VCS
theorem L_X7_putsAside_2 {d b : Nat} {h0 : PH} {s : Int → Int} {t : Int} {Q : Int → PH → Prop} {X : Nat → PH → Prop}  : ∀ (n : Nat) (k : Int) (D : Nat → Int → Int) (h : PH), (Mt b h0 h D s t) → (0 ≤ k) → (k + n = 861) → (∀ (x : Int) h', x = 0 → Mt b h0 h' (dcp 7 0 s n k D) s t → Q x h') → WP k_X7_putsAside [] (RUN GQ (d + 0)) 0 0 (d + 1) Q X 2 [some (pA b), some (pI k)] [] h 0 0 := by
  intro n
  induction n with
  | zero =>
    intro k D h M hk0 hn0 H
    refine WP.of (RUN.mono GQ _) (cuts := [2]) (n := 400) (v_X7_putsAside_2 _ _ _ _ _ ?_)
    refine ⟨ir (by omega) (by omega), ir (by omega) (by omega), fun c6 => ?_, fun c6 => ?_⟩
    · exfalso; omega
    · exact H _ _ rfl M
  | succ n ih =>
    intro k D h M hk0 hn0 H
    refine WP.of (RUN.mono GQ _) (cuts := [2]) (n := 400) (v_X7_putsAside_2 _ _ _ _ _ ?_)
    refine ⟨ir (by omega) (by omega), ir (by omega) (by omega), fun c6 => ?_, fun c6 => ?_⟩
    · refine ⟨M.k0, ?_⟩
      try rw [M.r12]
      refine ⟨M.k0, ?_⟩
      try rw [M.r11]
      refine M.ld6 (by omega) (by omega) (fun er => ?_)
      try rw [er]
      clear er
      refine M.as7 (by omega) (by omega) (fun h20 M20 => ?_)
      refine ih _ _ _ M20 (by omega) (by omega) ?_
      simp only [dcp, Int.zero_add] at H
      exact H
    · exfalso; omega
theorem S_X7_putsAside {d b : Nat} {h0 h : PH} {D : Nat → Int → Int} {s : Int → Int} {t : Int} {Q : Int → PH → Prop} {X : Nat → PH → Prop} (M : Mt b h0 h D s t)  (H : ∀ (x : Int) h', x = (0) → Mt b h0 h' (dcp 7 0 s 861 0 D) (s) t → Q x h') : RUN GQ (d + 1) m_X7_putsAside [pA b] h Q X := by
  rw [e_X7_putsAside]
  refine WP.of (RUN.mono GQ _) (cuts := [2]) (n := 400) (v_X7_putsAside_0 _ _ _ _ _ ?_)
  refine L_X7_putsAside_2 (861) _ _ _ M (by omega) (by omega) ?_
  exact H
theorem L_X7_fetchesBack_2 {d b : Nat} {h0 : PH} {D : Nat → Int → Int} {t : Int} {Q : Int → PH → Prop} {X : Nat → PH → Prop}  : ∀ (n : Nat) (k : Int) (s : Int → Int) (h : PH), (Mt b h0 h D s t) → (0 ≤ k) → (k + n = 861) → (∀ (x : Int) h', x = 0 → Mt b h0 h' D (scp 0 (D 7) n k s) t → Q x h') → WP k_X7_fetchesBack [] (RUN GQ (d + 0)) 0 0 (d + 1) Q X 2 [some (pA b), some (pI k)] [] h 0 0 := by
  intro n
  induction n with
  | zero =>
    intro k s h M hk0 hn0 H
    refine WP.of (RUN.mono GQ _) (cuts := [2]) (n := 400) (v_X7_fetchesBack_2 _ _ _ _ _ ?_)
    refine ⟨ir (by omega) (by omega), ir (by omega) (by omega), fun c6 => ?_, fun c6 => ?_⟩
    · exfalso; omega
    · exact H _ _ rfl M
  | succ n ih =>
    intro k s h M hk0 hn0 H
    refine WP.of (RUN.mono GQ _) (cuts := [2]) (n := 400) (v_X7_fetchesBack_2 _ _ _ _ _ ?_)
    refine ⟨ir (by omega) (by omega), ir (by omega) (by omega), fun c6 => ?_, fun c6 => ?_⟩
    · refine ⟨M.k0, ?_⟩
      try rw [M.r11]
      refine ⟨M.k0, ?_⟩
      try rw [M.r12]
      refine M.ld7 (by omega) (by omega) (fun er => ?_)
      try rw [er]
      clear er
      refine M.as6 (by omega) (by omega) (fun h20 M20 => ?_)
      refine ih _ _ _ M20 (by omega) (by omega) ?_
      simp only [scp, Int.zero_add] at H
      exact H
    · exfalso; omega
theorem S_X7_fetchesBack {d b : Nat} {h0 h : PH} {D : Nat → Int → Int} {s : Int → Int} {t : Int} {Q : Int → PH → Prop} {X : Nat → PH → Prop} (M : Mt b h0 h D s t)  (H : ∀ (x : Int) h', x = (0) → Mt b h0 h' (D) (scp 0 (D 7) 861 0 s) t → Q x h') : RUN GQ (d + 1) m_X7_fetchesBack [pA b] h Q X := by
  rw [e_X7_fetchesBack]
  refine WP.of (RUN.mono GQ _) (cuts := [2]) (n := 400) (v_X7_fetchesBack_0 _ _ _ _ _ ?_)
  refine L_X7_fetchesBack_2 (861) _ _ _ M (by omega) (by omega) ?_
  exact H
theorem L_X7_keeps_2 {d b : Nat} {h0 : PH} {s : Int → Int} {t : Int} {Q : Int → PH → Prop} {X : Nat → PH → Prop} {st : Int} (hst : 0 ≤ st ∧ st ≤ 9) : ∀ (n : Nat) (k : Int) (D : Nat → Int → Int) (h : PH), (Mt b h0 h D s t) → (0 ≤ k) → (k + n = 861) → (∀ (x : Int) h', x = 0 → Mt b h0 h' (dcp 8 (861 * st) s n k D) s t → Q x h') → WP k_X7_keeps [] (RUN GQ (d + 0)) 0 0 (d + 1) Q X 2 [some (pA b), some (pI st), some (pI k)] [] h 0 0 := by
  intro n
  induction n with
  | zero =>
    intro k D h M hk0 hn0 H
    refine WP.of (RUN.mono GQ _) (cuts := [2]) (n := 400) (v_X7_keeps_2 _ _ _ _ _ _ ?_)
    refine ⟨ir (by omega) (by omega), ir (by omega) (by omega), fun c6 => ?_, fun c6 => ?_⟩
    · exfalso; omega
    · exact H _ _ rfl M
  | succ n ih =>
    intro k D h M hk0 hn0 H
    refine WP.of (RUN.mono GQ _) (cuts := [2]) (n := 400) (v_X7_keeps_2 _ _ _ _ _ _ ?_)
    refine ⟨ir (by omega) (by omega), ir (by omega) (by omega), fun c6 => ?_, fun c6 => ?_⟩
    · refine ⟨M.k0, ?_⟩
      try rw [M.r13]
      refine ⟨M.k0, ?_⟩
      try rw [M.r11]
      refine M.ld6 (by omega) (by omega) (fun er => ?_)
      try rw [er]
      clear er
      refine M.as8 (by omega) (by omega) (fun h26 M26 => ?_)
      refine ih _ _ _ M26 (by omega) (by omega) ?_
      exact H
    · exfalso; omega
theorem S_X7_keeps {d b : Nat} {h0 h : PH} {D : Nat → Int → Int} {s : Int → Int} {t : Int} {Q : Int → PH → Prop} {X : Nat → PH → Prop} {st : Int} (M : Mt b h0 h D s t) (hst : 0 ≤ st ∧ st ≤ 9) (H : ∀ (x : Int) h', x = (0) → Mt b h0 h' (dcp 8 (861 * st) s 861 0 D) (s) t → Q x h') : RUN GQ (d + 1) m_X7_keeps [pA b, pI st] h Q X := by
  rw [e_X7_keeps]
  refine WP.of (RUN.mono GQ _) (cuts := [2]) (n := 400) (v_X7_keeps_0 _ _ _ _ _ _ ?_)
  refine L_X7_keeps_2 hst (861) _ _ _ M (by omega) (by omega) ?_
  exact H
theorem L_X7_fetches_2 {d b : Nat} {h0 : PH} {D : Nat → Int → Int} {t : Int} {Q : Int → PH → Prop} {X : Nat → PH → Prop} {st : Int} (hst : 0 ≤ st ∧ st ≤ 9) : ∀ (n : Nat) (k : Int) (s : Int → Int) (h : PH), (Mt b h0 h D s t) → (0 ≤ k) → (k + n = 861) → (∀ (x : Int) h', x = 0 → Mt b h0 h' D (scp (861 * st) (D 8) n k s) t → Q x h') → WP k_X7_fetches [] (RUN GQ (d + 0)) 0 0 (d + 1) Q X 2 [some (pA b), some (pI st), some (pI k)] [] h 0 0 := by
  intro n
  induction n with
  | zero =>
    intro k s h M hk0 hn0 H
    refine WP.of (RUN.mono GQ _) (cuts := [2]) (n := 400) (v_X7_fetches_2 _ _ _ _ _ _ ?_)
    refine ⟨ir (by omega) (by omega), ir (by omega) (by omega), fun c6 => ?_, fun c6 => ?_⟩
    · exfalso; omega
    · exact H _ _ rfl M
  | succ n ih =>
    intro k s h M hk0 hn0 H
    refine WP.of (RUN.mono GQ _) (cuts := [2]) (n := 400) (v_X7_fetches_2 _ _ _ _ _ _ ?_)
    refine ⟨ir (by omega) (by omega), ir (by omega) (by omega), fun c6 => ?_, fun c6 => ?_⟩
    · refine ⟨M.k0, ?_⟩
      try rw [M.r11]
      refine ⟨M.k0, ?_⟩
      try rw [M.r13]
      refine M.ld8 (by omega) (by omega) (fun er => ?_)
      try rw [er]
      clear er
      refine M.as6 (by omega) (by omega) (fun h26 M26 => ?_)
      refine ih _ _ _ M26 (by omega) (by omega) ?_
      exact H
    · exfalso; omega
theorem S_X7_fetches {d b : Nat} {h0 h : PH} {D : Nat → Int → Int} {s : Int → Int} {t : Int} {Q : Int → PH → Prop} {X : Nat → PH → Prop} {st : Int} (M : Mt b h0 h D s t) (hst : 0 ≤ st ∧ st ≤ 9) (H : ∀ (x : Int) h', x = (0) → Mt b h0 h' (D) (scp (861 * st) (D 8) 861 0 s) t → Q x h') : RUN GQ (d + 1) m_X7_fetches [pA b, pI st] h Q X := by
  rw [e_X7_fetches]
  refine WP.of (RUN.mono GQ _) (cuts := [2]) (n := 400) (v_X7_fetches_0 _ _ _ _ _ _ ?_)
  refine L_X7_fetches_2 hst (861) _ _ _ M (by omega) (by omega) ?_
  exact H
theorem L_X7_keepsAll_11 {d b : Nat} {h0 : PH} {s : Int → Int} {t : Int} {Q : Int → PH → Prop} {X : Nat → PH → Prop}  : ∀ (n : Nat) (k : Int) (D : Nat → Int → Int) (h : PH), (Mt b h0 h D s t) → (0 ≤ k) → (k + n = 6027) → (D 0 14 = 8) → (∀ (x : Int) h', x = 0 → Mt b h0 h' (kpB (dst (srow D 8 (sfl 861 n k (D 8))) 0 14 (D 0 14 - 1)) s) s t → Q x h') → WP k_X7_keepsAll [] (RUN GQ (d + 1)) 0 0 (d + 2) Q X 11 [some (pA b), some (pI k)] [] h 0 0 := by
  intro n
  induction n with
  | zero =>
    intro k D h M hk0 hn0 hc H
    refine WP.of (RUN.mono GQ _) (cuts := [11]) (n := 400) (v_X7_keepsAll_11 _ _ _ _ _ ?_)
    refine ⟨ir (by omega) (by omega), ir (by omega) (by omega), fun c15 => ?_, fun c15 => ?_⟩
    · exfalso; omega
    · refine ⟨M.k0, ?_⟩
      try rw [M.f14]
      refine M.p14 (fun h47 M47 => ?_)
      refine ⟨M47.k0, ?_⟩
      try rw [M47.f14]
      refine ⟨M47.k0, ?_⟩
      refine S_X7_keeps M47 (by first | omega | (rw [dst_eq]; omega)) (fun x57 h57 e57 M57 => ?_)
      subst e57
      refine ⟨M57.k0, ?_⟩
      try rw [M57.f14]
      refine M57.p14 (fun h67 M67 => ?_)
      exact H _ _ rfl (M67.castD (by show kpB (dst (srow D 8 (D 8)) 0 14 (D 0 14 - 1)) s = _; rw [srow_self]; unfold kpB; rw [dcp_row (by decide)]))
  | succ n ih =>
    intro k D h M hk0 hn0 hc H
    refine WP.of (RUN.mono GQ _) (cuts := [11]) (n := 400) (v_X7_keepsAll_11 _ _ _ _ _ ?_)
    refine ⟨ir (by omega) (by omega), ir (by omega) (by omega), fun c15 => ?_, fun c15 => ?_⟩
    · refine ⟨M.k0, ?_⟩
      try rw [M.r13]
      refine ⟨M.k0, ?_⟩
      try rw [M.r13]
      refine M.ld8 (by omega) (by omega) (fun er => ?_)
      try rw [er]
      clear er
      refine M.as8 (by omega) (by omega) (fun h33 M33 => ?_)
      refine ih _ _ _ M33 (by omega) (by omega) (by exact hc) ?_
      rw [kp_step] at H
      exact H
    · exfalso; omega
theorem S_X7_keepsAll {d b : Nat} {h0 h : PH} {D : Nat → Int → Int} {s : Int → Int} {t : Int} {Q : Int → PH → Prop} {X : Nat → PH → Prop} (M : Mt b h0 h D s t) (hc : 0 ≤ D 0 14 ∧ D 0 14 ≤ 8) (H : ∀ (x : Int) h', x = (0) → Mt b h0 h' (kpA D s) (s) t → Q x h') : RUN GQ (d + 2) m_X7_keepsAll [pA b] h Q X := by
  rw [e_X7_keepsAll]
  refine WP.of (RUN.mono GQ _) (cuts := [11]) (n := 400) (v_X7_keepsAll_0 _ _ _ _ _ ?_)
  refine ⟨M.k0, ?_⟩
  try rw [M.f14]
  refine ⟨ir (by omega) (by omega), ir (by omega) (by omega), fun c6 => ?_, fun c6 => ?_⟩
  · refine L_X7_keepsAll_11 (6027) _ _ _ M (by omega) (by omega) (by omega) ?_
    refine fun x h' e M => H x h' e (M.castD ?_)
    rw [kpA_eq, if_pos (by omega)]
  · refine ⟨M.k0, ?_⟩
    try rw [M.f14]
    refine ⟨M.k0, ?_⟩
    refine S_X7_keeps M (by first | omega | (rw [dst_eq]; omega)) (fun x57 h57 e57 M57 => ?_)
    subst e57
    refine ⟨M57.k0, ?_⟩
    try rw [M57.f14]
    refine M57.p14 (fun h67 M67 => ?_)
    exact H _ _ rfl (M67.castD (by rw [kpA_eq, if_neg (by omega)]; unfold kpB; rw [dcp_row (by decide)]))
