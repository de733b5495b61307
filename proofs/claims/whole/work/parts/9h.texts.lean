/-! the model writes (written by wip/whole/tools/eng.py) -/
section VCS
variable {call : PC} {mc ms fr : Nat} {Q : Int → PH → Prop} {X : Nat → PH → Prop} {K : PK}
set_option maxRecDepth 100000 in
theorem v_X7_says_0 (a0 : Nat) (i1 : Int) (h : PH) (c s : Nat) (H : hk h a0 = 8 ∧ hk h a0 = 8 ∧ hk h (hr h a0 45) = 20 ∧ (0 ≤ (hi h a0 46) ∧ (hi h a0 46) < (hl h (hr h a0 45) : Int)) ∧ ∀ h1, h1 = hsi h (hr h a0 45) (Int.toNat ((hi h a0 46))) i1 →
 hk h1 a0 = 8 ∧ hk h1 a0 = 8 ∧ ∀ h2, h2 = hsi h1 a0 46 ((hi h1 a0 46) + 1) →
 Q 0 h2) : wpc k_X7_says [] call mc ms fr Q X [] K 400 (pto 0 k_X7_says) [some (pA a0), some (pI i1)] [] h c s :=
  H
set_option maxRecDepth 100000 in
theorem v_X7_saysNumber_0 (a0 : Nat) (i1 : Int) (z2 : Option PV) (h : PH) (c s : Nat) (H : K 2 [some (pA a0), some (pI i1), some (pI 1)] [] h c s) : wpc k_X7_saysNumber [] call mc ms fr Q X [2, 18] K 400 (pto 0 k_X7_saysNumber) [some (pA a0), some (pI i1), z2] [] h c s :=
  H
set_option maxRecDepth 100000 in
theorem v_X7_saysNumber_2 (a0 : Nat) (i1 : Int) (i2 : Int) (h : PH) (c s : Nat) (H : InR i1 ∧ InR i2 ∧ i2 ≠ 0 ∧ InR (Int.tdiv i1 i2) ∧ InR 10 ∧ ((Int.tdiv i1 i2) < 10 →
 K 18 [some (pA a0), some (pI i1), some (pI i2)] [] h c s) ∧
(10 ≤ (Int.tdiv i1 i2) →
 K 2 [some (pA a0), some (pI i1), some (pI (10 * i2))] [] h c s)) : wpc k_X7_saysNumber [] call mc ms fr Q X [2, 18] K 400 (pto 2 k_X7_saysNumber) [some (pA a0), some (pI i1), some (pI i2)] [] h c s :=
  H
set_option maxRecDepth 100000 in
theorem v_X7_saysNumber_18 (a0 : Nat) (i1 : Int) (i2 : Int) (h : PH) (c s : Nat) (H : InR i2 ∧ (0 < i2 →
 InR i1 ∧ InR i2 ∧ i2 ≠ 0 ∧ InR (Int.tdiv i1 i2) ∧ InR 10 ∧ (10 : Int) ≠ 0 ∧ hk h a0 = 8 ∧ call m_X7_says [pA a0, pI (48 + (Int.tmod (Int.tdiv i1 i2) 10))] h (fun _ h1 =>
 InR i2 ∧ InR 10 ∧ (10 : Int) ≠ 0 ∧ K 18 [some (pA a0), some (pI i1), some (pI (Int.tdiv i2 10))] [] h1 c s) X) ∧
(i2 ≤ 0 →
 Q 0 h)) : wpc k_X7_saysNumber [] call mc ms fr Q X [2, 18] K 400 (pto 18 k_X7_saysNumber) [some (pA a0), some (pI i1), some (pI i2)] [] h c s :=
  H
set_option maxRecDepth 100000 in
theorem v_X7_parts_0 (a0 : Nat) (i1 : Int) (h : PH) (c s : Nat) (H : hk h a0 = 8 ∧ InR (hi h a0 46) ∧ (0 < (hi h a0 46) →
 hk h a0 = 8 ∧ call m_X7_says [pA a0, pI i1] h (fun _ h1 =>
 Q 0 h1) X) ∧
((hi h a0 46) ≤ 0 →
 Q 0 h)) : wpc k_X7_parts [] call mc ms fr Q X [] K 400 (pto 0 k_X7_parts) [some (pA a0), some (pI i1)] [] h c s :=
  H
set_option maxRecDepth 100000 in
theorem v_X7_saysKind_0 (a0 : Nat) (i1 : Int) (z2 : Option PV) (h : PH) (c s : Nat) (H : K 2 [some (pA a0), some (pI i1), some (pI 0)] [] h c s) : wpc k_X7_saysKind [] call mc ms fr Q X [2] K 400 (pto 0 k_X7_saysKind) [some (pA a0), some (pI i1), z2] [] h c s :=
  H
set_option maxRecDepth 100000 in
theorem v_X7_saysKind_2 (a0 : Nat) (i1 : Int) (i2 : Int) (h : PH) (c s : Nat) (H : InR i2 ∧ InR 7 ∧ (i2 < 7 →
 hk h a0 = 8 ∧ (hk h (hr h a0 6) = 20 ∨ hk h (hr h a0 6) = 26) ∧ (0 ≤ ((7 * i1) + i2) ∧ ((7 * i1) + i2) < (hl h (hr h a0 6) : Int)) ∧ InR (hi h (hr h a0 6) (Int.toNat (((7 * i1) + i2)))) ∧ ((hi h (hr h a0 6) (Int.toNat (((7 * i1) + i2)))) = 0 →
 Q 0 h) ∧
((hi h (hr h a0 6) (Int.toNat (((7 * i1) + i2)))) ≠ 0 →
 hk h a0 = 8 ∧ (hk h (hr h a0 6) = 20 ∨ hk h (hr h a0 6) = 26) ∧ (0 ≤ ((7 * i1) + i2) ∧ ((7 * i1) + i2) < (hl h (hr h a0 6) : Int)) ∧ hk h a0 = 8 ∧ call m_X7_says [pA a0, pI (hi h (hr h a0 6) (Int.toNat (((7 * i1) + i2))))] h (fun _ h1 =>
 K 2 [some (pA a0), some (pI i1), some (pI (i2 + 1))] [] h1 c s) X)) ∧
(7 ≤ i2 →
 Q 0 h)) : wpc k_X7_saysKind [] call mc ms fr Q X [2] K 400 (pto 2 k_X7_saysKind) [some (pA a0), some (pI i1), some (pI i2)] [] h c s :=
  H
set_option maxRecDepth 100000 in
theorem v_X7_letterOf_0 (i0 : Int) (h : PH) (c s : Nat) (H : InR i0 ∧ (i0 = 0 →
 Q 104 h) ∧
(i0 ≠ 0 →
 InR i0 ∧ InR 1 ∧ (i0 = 1 →
 Q 102 h) ∧
(i0 ≠ 1 →
 InR i0 ∧ InR 2 ∧ (i0 = 2 →
 Q 97 h) ∧
(i0 ≠ 2 →
 InR i0 ∧ InR 3 ∧ (i0 = 3 →
 Q 113 h) ∧
(i0 ≠ 3 →
 InR i0 ∧ InR 4 ∧ (i0 = 4 →
 Q 110 h) ∧
(i0 ≠ 4 →
 Q 100 h)))))) : wpc k_X7_letterOf [] call mc ms fr Q X [] K 400 (pto 0 k_X7_letterOf) [some (pI i0)] [] h c s :=
  H
set_option maxRecDepth 100000 in
theorem v_X7_writeQueue_0 (a0 : Nat) (i1 : Int) (z2 : Option PV) (z3 : Option PV) (h : PH) (c s : Nat) (H : hk h a0 = 8 ∧ call m_X7_noProgram [pA a0, pI i1] h (fun x1 h1 =>
 InR x1 ∧ (x1 = 0 →
 hk h1 a0 = 8 ∧ ∀ h2, h2 = hsi h1 a0 46 0 →
 K 17 [some (pA a0), some (pI i1), some (pI 0), z3] [] h2 c s) ∧
(x1 ≠ 0 →
 Q 0 h1)) X) : wpc k_X7_writeQueue [] call mc ms fr Q X [17] K 400 (pto 0 k_X7_writeQueue) [some (pA a0), some (pI i1), z2, z3] [] h c s :=
  H
set_option maxRecDepth 100000 in
theorem v_X7_writeQueue_17 (a0 : Nat) (i1 : Int) (i2 : Int) (z3 : Option PV) (h : PH) (c s : Nat) (H : hk h a0 = 8 ∧ (hk h (hr h a0 11) = 20 ∨ hk h (hr h a0 11) = 26) ∧ (0 ≤ (115 + i1) ∧ (115 + i1) < (hl h (hr h a0 11) : Int)) ∧ InR i2 ∧ InR (hi h (hr h a0 11) (Int.toNat ((115 + i1)))) ∧ (i2 < (hi h (hr h a0 11) (Int.toNat ((115 + i1)))) →
 hk h a0 = 8 ∧ call m_X7_placeOf [pA a0, pI i1, pI i2] h (fun x1 h1 =>
 hk h1 a0 = 8 ∧ call m_X7_parts [pA a0, pI 32] h1 (fun _ h2 =>
 hk h2 a0 = 8 ∧ call m_X7_inQueue [pA a0, pI i1, pI x1, pI 0] h2 (fun x3 h3 =>
 hk h3 a0 = 8 ∧ call m_X7_saysNumber [pA a0, pI x3] h3 (fun _ h4 =>
 hk h4 a0 = 8 ∧ call m_X7_says [pA a0, pI 46] h4 (fun _ h5 =>
 hk h5 a0 = 8 ∧ call m_X7_inQueue [pA a0, pI i1, pI x1, pI 1] h5 (fun x6 h6 =>
 hk h6 a0 = 8 ∧ call m_X7_saysKind [pA a0, pI x6] h6 (fun _ h7 =>
 hk h7 a0 = 8 ∧ call m_X7_says [pA a0, pI 61] h7 (fun _ h8 =>
 hk h8 a0 = 8 ∧ call m_X7_inQueue [pA a0, pI i1, pI x1, pI 3] h8 (fun x9 h9 =>
 hk h9 a0 = 8 ∧ call m_X7_saysNumber [pA a0, pI x9] h9 (fun _ h10 =>
 K 17 [some (pA a0), some (pI i1), some (pI (i2 + 1)), some (pI x1)] [] h10 c s) X) X) X) X) X) X) X) X) X) X) ∧
((hi h (hr h a0 11) (Int.toNat ((115 + i1)))) ≤ i2 →
 hk h a0 = 8 ∧ Q (hi h a0 46) h)) : wpc k_X7_writeQueue [] call mc ms fr Q X [17] K 400 (pto 17 k_X7_writeQueue) [some (pA a0), some (pI i1), some (pI i2), z3] [] h c s :=
  H
set_option maxRecDepth 100000 in
theorem v_X7_writeStack_0 (a0 : Nat) (i1 : Int) (z2 : Option PV) (h : PH) (c s : Nat) (H : hk h a0 = 8 ∧ call m_X7_noProgram [pA a0, pI i1] h (fun x1 h1 =>
 InR x1 ∧ (x1 = 0 →
 hk h1 a0 = 8 ∧ ∀ h2, h2 = hsi h1 a0 46 0 →
 hk h2 a0 = 8 ∧ (hk h2 (hr h2 a0 11) = 20 ∨ hk h2 (hr h2 a0 11) = 26) ∧ (0 ≤ (511 + i1) ∧ (511 + i1) < (hl h2 (hr h2 a0 11) : Int)) ∧ K 28 [some (pA a0), some (pI i1), some (pI ((hi h2 (hr h2 a0 11) (Int.toNat ((511 + i1)))) - 1))] [] h2 c s) ∧
(x1 ≠ 0 →
 Q 0 h1)) X) : wpc k_X7_writeStack [] call mc ms fr Q X [28] K 400 (pto 0 k_X7_writeStack) [some (pA a0), some (pI i1), z2] [] h c s :=
  H
set_option maxRecDepth 100000 in
theorem v_X7_writeStack_28 (a0 : Nat) (i1 : Int) (i2 : Int) (h : PH) (c s : Nat) (H : InR i2 ∧ (i2 < 0 →
 hk h a0 = 8 ∧ Q (hi h a0 46) h) ∧
(0 ≤ i2 →
 hk h a0 = 8 ∧ call m_X7_parts [pA a0, pI 62] h (fun _ h1 =>
 hk h1 a0 = 8 ∧ call m_X7_onStack [pA a0, pI i1, pI i2, pI 1] h1 (fun x2 h2 =>
 hk h2 a0 = 8 ∧ call m_X7_saysKind [pA a0, pI x2] h2 (fun _ h3 =>
 hk h3 a0 = 8 ∧ call m_X7_says [pA a0, pI 58] h3 (fun _ h4 =>
 hk h4 a0 = 8 ∧ call m_X7_onStack [pA a0, pI i1, pI i2, pI 3] h4 (fun x5 h5 =>
 hk h5 a0 = 8 ∧ call m_X7_saysNumber [pA a0, pI x5] h5 (fun _ h6 =>
 K 28 [some (pA a0), some (pI i1), some (pI (i2 + (-1)))] [] h6 c s) X) X) X) X) X) X)) : wpc k_X7_writeStack [] call mc ms fr Q X [28] K 400 (pto 28 k_X7_writeStack) [some (pA a0), some (pI i1), some (pI i2)] [] h c s :=
  H
set_option maxRecDepth 100000 in
theorem v_X7_writeEnds_0 (a0 : Nat) (z1 : Option PV) (h : PH) (c s : Nat) (H : hk h a0 = 8 ∧ call m_X7_notLoaded [pA a0] h (fun x1 h1 =>
 InR x1 ∧ (x1 = 0 →
 hk h1 a0 = 8 ∧ ∀ h2, h2 = hsi h1 a0 46 0 →
 K 16 [some (pA a0), some (pI 0)] [] h2 c s) ∧
(x1 ≠ 0 →
 Q 0 h1)) X) : wpc k_X7_writeEnds [] call mc ms fr Q X [16] K 400 (pto 0 k_X7_writeEnds) [some (pA a0), z1] [] h c s :=
  H
set_option maxRecDepth 100000 in
theorem v_X7_writeEnds_16 (a0 : Nat) (i1 : Int) (h : PH) (c s : Nat) (H : hk h a0 = 8 ∧ call m_X7_toldEnds [pA a0] h (fun x1 h1 =>
 InR i1 ∧ InR x1 ∧ (i1 < x1 →
 hk h1 a0 = 8 ∧ call m_X7_parts [pA a0, pI 32] h1 (fun _ h2 =>
 hk h2 a0 = 8 ∧ call m_X7_ofEnd [pA a0, pI i1, pI 0] h2 (fun x3 h3 =>
 hk h3 a0 = 8 ∧ call m_X7_saysNumber [pA a0, pI x3] h3 (fun _ h4 =>
 hk h4 a0 = 8 ∧ call m_X7_ofEnd [pA a0, pI i1, pI 1] h4 (fun x5 h5 =>
 call m_X7_letterOf [pI x5] h5 (fun x6 h6 =>
 hk h6 a0 = 8 ∧ call m_X7_says [pA a0, pI x6] h6 (fun _ h7 =>
 K 16 [some (pA a0), some (pI (i1 + 1))] [] h7 c s) X) X) X) X) X) X) ∧
(x1 ≤ i1 →
 hk h1 a0 = 8 ∧ Q (hi h1 a0 46) h1)) X) : wpc k_X7_writeEnds [] call mc ms fr Q X [16] K 400 (pto 16 k_X7_writeEnds) [some (pA a0), some (pI i1)] [] h c s :=
  H
set_option maxRecDepth 100000 in
theorem v_X7_textByte_0 (a0 : Nat) (i1 : Int) (h : PH) (c s : Nat) (H : hk h a0 = 8 ∧ ∀ h1, h1 = hsi h a0 0 0 →
 hk h1 a0 = 8 ∧ call m_X7_in [pI i1, pI 0, pI ((hi h1 a0 46) - 1)] h1 (fun x2 h2 =>
 InR x2 ∧ (x2 = 0 →
 hk h2 a0 = 8 ∧ call m_X7_refuse [pA a0, pI 1, pI 1] h2 (fun x3 h3 =>
 InR x3 ∧ (x3 = 0 →
 hk h3 a0 = 8 ∧ (hk h3 (hr h3 a0 45) = 20 ∨ hk h3 (hr h3 a0 45) = 26) ∧ (0 ≤ i1 ∧ i1 < (hl h3 (hr h3 a0 45) : Int)) ∧ Q (hi h3 (hr h3 a0 45) (Int.toNat i1)) h3) ∧
(x3 ≠ 0 →
 Q 0 h3)) X) ∧
(x2 ≠ 0 →
 hk h2 a0 = 8 ∧ call m_X7_refuse [pA a0, pI 0, pI 1] h2 (fun x4 h4 =>
 InR x4 ∧ (x4 = 0 →
 hk h4 a0 = 8 ∧ (hk h4 (hr h4 a0 45) = 20 ∨ hk h4 (hr h4 a0 45) = 26) ∧ (0 ≤ i1 ∧ i1 < (hl h4 (hr h4 a0 45) : Int)) ∧ Q (hi h4 (hr h4 a0 45) (Int.toNat i1)) h4) ∧
(x4 ≠ 0 →
 Q 0 h4)) X)) X) : wpc k_X7_textByte [] call mc ms fr Q X [] K 400 (pto 0 k_X7_textByte) [some (pA a0), some (pI i1)] [] h c s :=
  H
end VCS
theorem S_X7_says {d b : Nat} {h0 h : PH} {D : Nat → Int → Int} {s : Int → Int} {t : Int} {Q : Int → PH → Prop} {X : Nat → PH → Prop} {E : Nat → Int → Int} {l : List Int} {ch : Int} (M : Mt b h0 h D s t) (T : TX E D l) (hl : (l.length : Int) < 600) (H : ∀ (x : Int) h' D', x = 0 → TX E D' (l ++ [ch]) → Mt b h0 h' D' s t → Q x h') : RUN GQ (d + 1) m_X7_says [pA b, pI ch] h Q X := by
  have t1 := T.1
  rw [e_X7_says]
  refine WP.of (RUN.mono GQ _) (cuts := []) (n := 400) (v_X7_says_0 _ _ _ _ _ ?_)
  refine ⟨M.k0, ?_⟩
  try rw [M.r45]
  refine ⟨M.k0, ?_⟩
  try rw [M.f46]
  refine M.as19 (by omega) (by omega) (fun h9 M9 => ?_)
  refine ⟨M9.k0, ?_⟩
  try rw [M9.f46]
  rw [dst_row (by decide)]
  refine M9.p46 (fun h17 M17 => ?_)
  exact H _ _ _ rfl (T.put ch) M17
theorem L_X7_saysNumber_18 {d b : Nat} {h0 : PH} {s : Int → Int} {t : Int} {Q : Int → PH → Prop} {X : Nat → PH → Prop} {E : Nat → Int → Int} {v : Int} (hv : 0 ≤ v ∧ v ≤ 999999999) : ∀ (n : Nat) (u : Int) (l : List Int) (D : Nat → Int → Int) (h : PH), (Mt b h0 h D s t) → (TX E D l) → (n ≤ 10) → (u = pwz n) → ((l.length : Int) + n ≤ 600) → (∀ (x : Int) h' D', x = 0 → TX E D' (l ++ dgl v n) → Mt b h0 h' D' s t → Q x h') → WP k_X7_saysNumber [] (RUN GQ (d + 1)) 0 0 (d + 2) Q X 18 [some (pA b), some (pI v), some (pI u)] [] h 0 0 := by
  intro n
  induction n with
  | zero =>
    intro u l D h M T hn10 hu hl H
    have p0 : pwz 0 = 0 := rfl
    refine WP.of (RUN.mono GQ _) (cuts := [2, 18]) (n := 400) (v_X7_saysNumber_18 _ _ _ _ _ _ ?_)
    refine ⟨ir (by omega) (by omega), fun c19 => ?_, fun c19 => ?_⟩
    · exfalso; omega
    · exact H _ _ _ rfl (T.cast (by rw [dgl, List.append_nil])) M
  | succ n ih =>
    intro u l D h M T hn10 hu hl H
    have p0 : pwz 0 = 0 := rfl
    have p1 : pwz (n + 1) = pw n := rfl
    rw [p1] at hu
    subst hu
    have p2 := pw_pos n
    have p3 := pw_9 n (by omega)
    have d1 := dv_t hv.1 n
    have d2 := dv_pos hv.1 n
    have m1 := tmN (x := dv v n) (y := 10) (by omega) (by omega)
    have m2 := pwz_t n
    have m3 : Int.tmod (dv v n) 10 = dv v n % 10 := by rw [Int.tmod_eq_emod_of_nonneg (by omega)]
    refine WP.of (RUN.mono GQ _) (cuts := [2, 18]) (n := 400) (v_X7_saysNumber_18 _ _ _ _ _ _ ?_)
    refine ⟨ir (by omega) (by omega), fun c19 => ?_, fun c19 => ?_⟩
    · refine ⟨ir (by omega) (by omega), ir (by omega) (by omega), (by omega), ?_⟩
      rw [d1]
      refine ⟨ir (by omega) (by omega), ir (by omega) (by omega), (by omega), ?_⟩
      rw [m3]
      refine ⟨M.k0, ?_⟩
      refine S_X7_says M T (by first | omega | (simp only [List.length_append, List.length_cons, List.length_nil]; omega)) (fun x32 h32 D32 e32 T32 M32 => ?_)
      subst e32
      refine ⟨ir (by omega) (by omega), ir (by omega) (by omega), (by omega), ?_⟩
      refine ih _ _ _ _ M32 T32 (by omega) (by exact m2) (by rw [List.length_append]; show ((l.length + 1 : Nat) : Int) + n ≤ 600; omega) ?_
      refine fun x h' D' e T M => H x h' D' e (T.cast ?_) M
      rw [List.append_assoc]; rfl
    · exfalso; omega
theorem L_X7_saysNumber_2 {d b : Nat} {h0 : PH} {D : Nat → Int → Int} {t : Int} {Q : Int → PH → Prop} {X : Nat → PH → Prop} {E : Nat → Int → Int} {l : List Int} {v : Int} {s : Int → Int} {h : PH} (M : Mt b h0 h D s t) (T : TX E D l) (hv : 0 ≤ v ∧ v ≤ 999999999) (hl : (l.length : Int) ≤ 590) : ∀ (n : Nat) (u : Int) (j : Nat), (j + n = 9) → (u = pw j) → (∀ (x : Int) h' D', x = 0 → TX E D' (l ++ dgl v (ndl v n j + 1)) → Mt b h0 h' D' s t → Q x h') → WP k_X7_saysNumber [] (RUN GQ (d + 1)) 0 0 (d + 2) Q X 2 [some (pA b), some (pI v), some (pI u)] [] h 0 0 := by
  intro n
  induction n with
  | zero =>
    intro u j hj hu H
    subst hu
    have p1 := pw_pos j
    have p2 := pw_9 j (by omega)
    have d1 := dv_t hv.1 j
    have d2 := dv_pos hv.1 j
    have d10 : j = 9 → dv v j = 0 := fun e => by rw [e]; exact dv_9 hv
    have d3 : dv v (j + 1) = dv v j / 10 := rfl
    refine WP.of (RUN.mono GQ _) (cuts := [2, 18]) (n := 400) (v_X7_saysNumber_2 _ _ _ _ _ _ ?_)
    refine ⟨ir (by omega) (by omega), ir (by omega) (by omega), (by omega), ?_⟩
    rw [d1]
    refine ⟨ir (by omega) (by omega), ir (by omega) (by omega), fun c7 => ?_, fun c7 => ?_⟩
    · refine L_X7_saysNumber_18 hv (j + 1) _ _ _ _ M T (by omega) (by rfl) (by omega) ?_
      first
      | exact H
      | (rw [ndl, if_neg (by omega)] at H; exact H)
    · exfalso; omega
  | succ n ih =>
    intro u j hj hu H
    subst hu
    have p1 := pw_pos j
    have p2 := pw_9 j (by omega)
    have d1 := dv_t hv.1 j
    have d2 := dv_pos hv.1 j
    have d10 : j = 9 → dv v j = 0 := fun e => by rw [e]; exact dv_9 hv
    have d3 : dv v (j + 1) = dv v j / 10 := rfl
    refine WP.of (RUN.mono GQ _) (cuts := [2, 18]) (n := 400) (v_X7_saysNumber_2 _ _ _ _ _ _ ?_)
    refine ⟨ir (by omega) (by omega), ir (by omega) (by omega), (by omega), ?_⟩
    rw [d1]
    refine ⟨ir (by omega) (by omega), ir (by omega) (by omega), fun c7 => ?_, fun c7 => ?_⟩
    · refine L_X7_saysNumber_18 hv (j + 1) _ _ _ _ M T (by omega) (by rfl) (by omega) ?_
      first
      | exact H
      | (rw [ndl, if_neg (by omega)] at H; exact H)
    · refine ih _ (j + 1) (by omega) (by rfl) ?_
      rw [ndl, if_pos (by omega)] at H
      exact H
theorem S_X7_saysNumber {d b : Nat} {h0 h : PH} {D : Nat → Int → Int} {s : Int → Int} {t : Int} {Q : Int → PH → Prop} {X : Nat → PH → Prop} {E : Nat → Int → Int} {l : List Int} {v : Int} (M : Mt b h0 h D s t) (T : TX E D l) (hv : 0 ≤ v ∧ v ≤ 999999999) (hl : (l.length : Int) ≤ 590) (H : ∀ (x : Int) h' D', x = 0 → TX E D' (l ++ numL v) → Mt b h0 h' D' s t → Q x h') : RUN GQ (d + 2) m_X7_saysNumber [pA b, pI v] h Q X := by
  have t1 := T.1
  rw [e_X7_saysNumber]
  refine WP.of (RUN.mono GQ _) (cuts := [2, 18]) (n := 400) (v_X7_saysNumber_0 _ _ _ _ _ _ ?_)
  refine L_X7_saysNumber_2 M T hv hl (9) _ 0 (by omega) (by rfl) ?_
  exact H
theorem S_X7_parts {d b : Nat} {h0 h : PH} {D : Nat → Int → Int} {s : Int → Int} {t : Int} {Q : Int → PH → Prop} {X : Nat → PH → Prop} {E : Nat → Int → Int} {l : List Int} {ch : Int} (M : Mt b h0 h D s t) (T : TX E D l) (hl : (l.length : Int) < 600) (hc : InR ch) (H : ∀ (x : Int) h' D', x = 0 → TX E D' (sepL l ch) → Mt b h0 h' D' s t → Q x h') : RUN GQ (d + 2) m_X7_parts [pA b, pI ch] h Q X := by
  have t1 := T.1
  rw [e_X7_parts]
  refine WP.of (RUN.mono GQ _) (cuts := []) (n := 400) (v_X7_parts_0 _ _ _ _ _ ?_)
  refine ⟨M.k0, ?_⟩
  try rw [M.f46]
  refine ⟨ir (by omega) (by omega), fun c4 => ?_, fun c4 => ?_⟩
  · refine ⟨M.k0, ?_⟩
    refine S_X7_says M T (by first | omega | (simp only [List.length_append, List.length_cons, List.length_nil]; omega)) (fun x9 h9 D9 e9 T9 M9 => ?_)
    subst e9
    exact H _ _ _ rfl (T9.cast (by unfold sepL; first | rw [if_neg (by omega)] | rw [if_pos (by omega)])) M9
  · exact H _ _ _ rfl (T.cast (by unfold sepL; first | rw [if_neg (by omega)] | rw [if_pos (by omega)])) M
theorem L_X7_saysKind_2 {d b : Nat} {h0 : PH} {s : Int → Int} {t : Int} {Q : Int → PH → Prop} {X : Nat → PH → Prop} {E : Nat → Int → Int} {kd : Int} (hk : 0 ≤ kd ∧ kd < 8) (hnm : NMv E) : ∀ (n : Nat) (i : Int) (l : List Int) (D : Nat → Int → Int) (h : PH), (Mt b h0 h D s t) → (TX E D l) → (0 ≤ i ∧ i + n = 7) → ((l.length : Int) + n ≤ 600) → (∀ (x : Int) h' D', x = 0 → TX E D' (l ++ chL (fun j => E 1 (7 * kd + j)) n i) → Mt b h0 h' D' s t → Q x h') → WP k_X7_saysKind [] (RUN GQ (d + 1)) 0 0 (d + 2) Q X 2 [some (pA b), some (pI kd), some (pI i)] [] h 0 0 := by
  intro n
  induction n with
  | zero =>
    intro i l D h M T hi0 hl H
    refine WP.of (RUN.mono GQ _) (cuts := [2]) (n := 400) (v_X7_saysKind_2 _ _ _ _ _ _ ?_)
    refine ⟨ir (by omega) (by omega), ir (by omega) (by omega), fun c5 => ?_, fun c5 => ?_⟩
    · exfalso; omega
    · exact H _ _ _ rfl (T.cast (by first | rw [chL, List.append_nil] | rw [chL, if_pos c19, List.append_nil])) M
  | succ n ih =>
    intro i l D h M T hi0 hl H
    have r1 := T.2.2.1 1 (by decide) (by decide)
    have nm := hnm (7 * kd + i) (by omega) (by omega)
    refine WP.of (RUN.mono GQ _) (cuts := [2]) (n := 400) (v_X7_saysKind_2 _ _ _ _ _ _ ?_)
    refine ⟨ir (by omega) (by omega), ir (by omega) (by omega), fun c5 => ?_, fun c5 => ?_⟩
    · refine ⟨M.k0, ?_⟩
      try rw [M.r6]
      refine M.ld1 (by omega) (by omega) (fun er => ?_)
      try rw [er]
      clear er
      rw [r1]
      refine ⟨ir (by omega) (by omega), fun c19 => ?_, fun c19 => ?_⟩
      · exact H _ _ _ rfl (T.cast (by first | rw [chL, List.append_nil] | rw [chL, if_pos c19, List.append_nil])) M
      · refine ⟨M.k0, ?_⟩
        try rw [M.r6]
        refine M.ld1 (by omega) (by omega) (fun er => ?_)
        try rw [er]
        clear er
        refine ⟨M.k0, ?_⟩
        refine S_X7_says M T (by first | omega | (simp only [List.length_append, List.length_cons, List.length_nil]; omega)) (fun x34 h34 D34 e34 T34 M34 => ?_)
        subst e34
        refine ih _ _ _ _ M34 T34 (by omega) (by rw [List.length_append]; show ((l.length + 1 : Nat) : Int) + n ≤ 600; omega) ?_
        refine fun x h' D' e T M => H x h' D' e (T.cast ?_) M
        rw [List.append_assoc, chL, if_neg c19]; rfl
    · exfalso; omega
theorem S_X7_saysKind {d b : Nat} {h0 h : PH} {D : Nat → Int → Int} {s : Int → Int} {t : Int} {Q : Int → PH → Prop} {X : Nat → PH → Prop} {E : Nat → Int → Int} {l : List Int} {kd : Int} (M : Mt b h0 h D s t) (T : TX E D l) (hk : 0 ≤ kd ∧ kd < 8) (hl : (l.length : Int) ≤ 590) (hnm : NMv E) (H : ∀ (x : Int) h' D', x = 0 → TX E D' (l ++ kndL E kd) → Mt b h0 h' D' s t → Q x h') : RUN GQ (d + 2) m_X7_saysKind [pA b, pI kd] h Q X := by
  have t1 := T.1
  rw [e_X7_saysKind]
  refine WP.of (RUN.mono GQ _) (cuts := [2]) (n := 400) (v_X7_saysKind_0 _ _ _ _ _ _ ?_)
  refine L_X7_saysKind_2 hk hnm (7) _ _ _ _ M T (by omega) (by omega) ?_
  exact H
theorem S_X7_letterOf {d : Nat} {h : PH} {Q : Int → PH → Prop} {X : Nat → PH → Prop} {u : Int}  (hvu : InR u) (H : ∀ x : Int, x = lett u → Q x h) : RUN GQ (d + 1) m_X7_letterOf [pI u] h Q X := by
  rw [e_X7_letterOf]
  refine WP.of (RUN.mono GQ _) (cuts := []) (n := 400) (v_X7_letterOf_0 _ _ _ _ ?_)
  refine ⟨ir (by omega) (by omega), fun c1 => ?_, fun c1 => ?_⟩
  · refine H _ ?_
    unfold lett
    (repeat' split) <;> first | rfl | (exfalso; omega)
  · refine ⟨ir (by omega) (by omega), ir (by omega) (by omega), fun c11 => ?_, fun c11 => ?_⟩
    · refine H _ ?_
      unfold lett
      (repeat' split) <;> first | rfl | (exfalso; omega)
    · refine ⟨ir (by omega) (by omega), ir (by omega) (by omega), fun c21 => ?_, fun c21 => ?_⟩
      · refine H _ ?_
        unfold lett
        (repeat' split) <;> first | rfl | (exfalso; omega)
      · refine ⟨ir (by omega) (by omega), ir (by omega) (by omega), fun c31 => ?_, fun c31 => ?_⟩
        · refine H _ ?_
          unfold lett
          (repeat' split) <;> first | rfl | (exfalso; omega)
        · refine ⟨ir (by omega) (by omega), ir (by omega) (by omega), fun c41 => ?_, fun c41 => ?_⟩
          · refine H _ ?_
            unfold lett
            (repeat' split) <;> first | rfl | (exfalso; omega)
          · refine H _ ?_
            unfold lett
            (repeat' split) <;> first | rfl | (exfalso; omega)
theorem L_X7_writeQueue_17 {d b : Nat} {h0 : PH} {s : Int → Int} {t : Int} {Q : Int → PH → Prop} {X : Nat → PH → Prop} {p : Int} {E : Nat → Int → Int} {N : Int} (I : HI (E 0 3) (E 0 4) (E 0 2) N s) (hN9 : N ≤ 999000000) (hp : 0 ≤ p ∧ p < 6) (hK : 0 ≤ E 0 3 ∧ E 0 3 ≤ 8) (hnm : NMv E) : ∀ (n : Nat) (i : Int) (z3 : Option PV) (l : List Int) (D : Nat → Int → Int) (h : PH), (Mt b h0 h D s t) → (TX E D l) → (0 ≤ i ∧ i + n = s (115 + p)) → ((l.length : Int) ≤ 30 * i) → (∀ (x : Int) h' D', x = ((wqL E s p n i l).length : Nat) → TX E D' (wqL E s p n i l) → Mt b h0 h' D' s t → Q x h') → WP k_X7_writeQueue [] (RUN GQ (d + 4)) 0 0 (d + 5) Q X 17 [some (pA b), some (pI p), some (pI i), z3] [] h 0 0 := by
  intro n
  induction n with
  | zero =>
    intro i z3 l D h M T hi0 hl H
    have q0 := I.qn hp
    have q1 := I.hq.1
    refine WP.of (RUN.mono GQ _) (cuts := [17]) (n := 400) (v_X7_writeQueue_17 _ _ _ _ _ _ _ ?_)
    refine ⟨M.k0, ?_⟩
    try rw [M.r11]
    refine M.ld6 (by omega) (by omega) (fun er => ?_)
    try rw [er]
    clear er
    refine ⟨ir (by omega) (by omega), ir (by omega) (by omega), fun c27 => ?_, fun c27 => ?_⟩
    · exfalso; omega
    · refine ⟨M.k0, ?_⟩
      try rw [M.f46]
      rw [T.1]
      exact H _ _ _ rfl T M
  | succ n ih =>
    intro i z3 l D h M T hi0 hl H
    have q0 := I.qn hp
    have q1 := I.hq.1
    refine WP.of (RUN.mono GQ _) (cuts := [17]) (n := 400) (v_X7_writeQueue_17 _ _ _ _ _ _ _ ?_)
    refine ⟨M.k0, ?_⟩
    try rw [M.r11]
    refine M.ld6 (by omega) (by omega) (fun er => ?_)
    try rw [er]
    clear er
    refine ⟨ir (by omega) (by omega), ir (by omega) (by omega), fun c27 => ?_, fun c27 => ?_⟩
    · refine ⟨M.k0, ?_⟩
      refine S_X7_placeOf M I hK (by omega) (by omega) (by omega) (fun x33 e33 => ?_)
      subst e33
      have pl := plc_spec (s := s) (p := p) (x := i) (by omega)
      have qe := I.qe hp (i := plc s p i) (by omega)
      unfold QE at qe
      have e1 := I.e1
      have v3 := I.hq.1
      refine ⟨M.k0, ?_⟩
      refine S_X7_parts M T (by first | omega | (simp only [List.length_append, List.length_cons, List.length_nil]; omega)) (by omega) (fun x40 h40 D40 e40 T40 M40 => ?_)
      subst e40
      have y1 := sep_len l 32
      refine ⟨M40.k0, ?_⟩
      refine S_X7_inQueue M40 (by omega) (by omega) (by omega) (fun x48 e48 => ?_)
      subst e48
      refine ⟨M40.k0, ?_⟩
      refine S_X7_saysNumber M40 T40 (by omega) (by first | omega | (simp only [List.length_append, List.length_cons, List.length_nil]; omega)) (fun x51 h51 D51 e51 T51 M51 => ?_)
      subst e51
      have y2 := num_len (qv s p (plc s p i) 0)
      refine ⟨M51.k0, ?_⟩
      refine S_X7_says M51 T51 (by first | omega | (simp only [List.length_append, List.length_cons, List.length_nil]; omega)) (fun x57 h57 D57 e57 T57 M57 => ?_)
      subst e57
      refine ⟨M57.k0, ?_⟩
      refine S_X7_inQueue M57 (by omega) (by omega) (by omega) (fun x65 e65 => ?_)
      subst e65
      refine ⟨M57.k0, ?_⟩
      refine S_X7_saysKind M57 T57 (by omega) (by first | omega | (simp only [List.length_append, List.length_cons, List.length_nil]; omega)) (by omega) (fun x68 h68 D68 e68 T68 M68 => ?_)
      subst e68
      have y4 := knd_len E (qv s p (plc s p i) 1)
      refine ⟨M68.k0, ?_⟩
      refine S_X7_says M68 T68 (by first | omega | (simp only [List.length_append, List.length_cons, List.length_nil]; omega)) (fun x74 h74 D74 e74 T74 M74 => ?_)
      subst e74
      refine ⟨M74.k0, ?_⟩
      refine S_X7_inQueue M74 (by omega) (by omega) (by omega) (fun x82 e82 => ?_)
      subst e82
      refine ⟨M74.k0, ?_⟩
      refine S_X7_saysNumber M74 T74 (by omega) (by first | omega | (simp only [List.length_append, List.length_cons, List.length_nil]; omega)) (fun x85 h85 D85 e85 T85 M85 => ?_)
      subst e85
      have y5 := wq1_len (D := E) (s := s) (p := p) (k := plc s p i) l
      refine ih _ _ _ _ _ M85 T85 (by omega) (by show ((wq1 E s p (plc s p i) l).length : Int) ≤ 30 * (i + 1); omega) ?_
      exact H
    · exfalso; omega
theorem S_X7_writeQueue {d b : Nat} {h0 h : PH} {D : Nat → Int → Int} {s : Int → Int} {t : Int} {Q : Int → PH → Prop} {X : Nat → PH → Prop} {N : Int} {p : Int} (M : Mt b h0 h D s t) (W : WD D s N) (hvp : InR p) (hN9 : N ≤ 999000000) (hnm : NMv D) (H : ∀ (x : Int) h' D', (ck (tL D) p 0 (D 0 4 - 1) 2 = 0 → x = ((wqL D s p (s (115 + p)).toNat 0 []).length : Nat) ∧ TX D D' (wqL D s p (s (115 + p)).toNat 0 [])) → (ck (tL D) p 0 (D 0 4 - 1) 2 ≠ 0 → D' = D) → Mt b h0 h' D' s (ck (tL D) p 0 (D 0 4 - 1) 2) → Q x h') : RUN GQ (d + 5) m_X7_writeQueue [pA b, pI p] h Q X := by
  obtain ⟨w1, w2, w3, wN, ws1, wI⟩ := id W
  have kL := tL_or D
  have k1 := ck_or (tL D) p 0 (D 0 4 - 1) 2
  rw [e_X7_writeQueue]
  refine WP.of (RUN.mono GQ _) (cuts := [17]) (n := 400) (v_X7_writeQueue_0 _ _ _ _ _ _ _ ?_)
  refine ⟨M.k0, ?_⟩
  refine S_X7_noProgram M W (by omega) (fun x2 h2 e2 M2 => ?_)
  refine ⟨ir (by omega) (by omega), fun c5 => ?_, fun c5 => ?_⟩
  · obtain ⟨I, V, sw⟩ := wI (by omega)
    have q0 := I.qn (p := p) (by omega)
    refine M2.p46 (fun h12 M12 => ?_)
    have T0 : TX D (dst D 0 46 0) [] := TX.nil (fun _ _ _ => rfl) (fun _ _ => rfl)
    refine L_X7_writeQueue_17 I hN9 (by omega) (by omega) hnm ((s (115 + p)).toNat) _ _ _ _ _ M12 T0 (by omega) (by show ((0 : Nat) : Int) ≤ 30 * 0; omega) ?_
    refine fun x h' D' e T M => H x h' D' (fun _ => ⟨e, T⟩) (fun z => absurd (by omega) z) (M.castT (by omega))
  · exact H _ _ D (fun z => absurd z (by omega)) (fun _ => rfl) (M2.castT (by omega))
theorem L_X7_writeStack_28 {d b : Nat} {h0 : PH} {s : Int → Int} {t : Int} {Q : Int → PH → Prop} {X : Nat → PH → Prop} {p : Int} {E : Nat → Int → Int} {N : Int} (I : HI (E 0 3) (E 0 4) (E 0 2) N s) (hN9 : N ≤ 999000000) (hp : 0 ≤ p ∧ p < 6) (hK : 0 ≤ E 0 3 ∧ E 0 3 ≤ 8) (hnm : NMv E) : ∀ (n : Nat) (k : Int) (l : List Int) (D : Nat → Int → Int) (h : PH), (Mt b h0 h D s t) → (TX E D l) → (k = n - 1 ∧ n ≤ s (511 + p)) → ((l.length : Int) ≤ 20 * (4 - n)) → (∀ (x : Int) h' D', x = ((wsL E s p n l).length : Nat) → TX E D' (wsL E s p n l) → Mt b h0 h' D' s t → Q x h') → WP k_X7_writeStack [] (RUN GQ (d + 3)) 0 0 (d + 4) Q X 28 [some (pA b), some (pI p), some (pI k)] [] h 0 0 := by
  intro n
  induction n with
  | zero =>
    intro k l D h M T hk0 hl H
    have q0 := I.sn hp
    refine WP.of (RUN.mono GQ _) (cuts := [28]) (n := 400) (v_X7_writeStack_28 _ _ _ _ _ _ ?_)
    refine ⟨ir (by omega) (by omega), fun c29 => ?_, fun c29 => ?_⟩
    · refine ⟨M.k0, ?_⟩
      try rw [M.f46]
      rw [T.1]
      exact H _ _ _ rfl T M
    · exfalso; omega
  | succ n ih =>
    intro k l D h M T hk0 hl H
    have q0 := I.sn hp
    refine WP.of (RUN.mono GQ _) (cuts := [28]) (n := 400) (v_X7_writeStack_28 _ _ _ _ _ _ ?_)
    refine ⟨ir (by omega) (by omega), fun c29 => ?_, fun c29 => ?_⟩
    · exfalso; omega
    · have se := I.se hp (i := k) (by omega)
      unfold SE at se
      refine ⟨M.k0, ?_⟩
      refine S_X7_parts M T (by first | omega | (simp only [List.length_append, List.length_cons, List.length_nil]; omega)) (by omega) (fun x35 h35 D35 e35 T35 M35 => ?_)
      subst e35
      have y1 := sep_len l 62
      refine ⟨M35.k0, ?_⟩
      refine S_X7_onStack M35 (by omega) (by omega) (by omega) (fun x43 e43 => ?_)
      subst e43
      refine ⟨M35.k0, ?_⟩
      refine S_X7_saysKind M35 T35 (by omega) (by first | omega | (simp only [List.length_append, List.length_cons, List.length_nil]; omega)) (by omega) (fun x46 h46 D46 e46 T46 M46 => ?_)
      subst e46
      have y4 := knd_len E (sv s p k 1)
      refine ⟨M46.k0, ?_⟩
      refine S_X7_says M46 T46 (by first | omega | (simp only [List.length_append, List.length_cons, List.length_nil]; omega)) (fun x52 h52 D52 e52 T52 M52 => ?_)
      subst e52
      refine ⟨M52.k0, ?_⟩
      refine S_X7_onStack M52 (by omega) (by omega) (by omega) (fun x60 e60 => ?_)
      subst e60
      refine ⟨M52.k0, ?_⟩
      refine S_X7_saysNumber M52 T52 (by omega) (by first | omega | (simp only [List.length_append, List.length_cons, List.length_nil]; omega)) (fun x63 h63 D63 e63 T63 M63 => ?_)
      subst e63
      have y5 := ws1_len (D := E) (s := s) (p := p) (k := k) l
      refine ih _ _ _ _ M63 T63 (by omega) (by show ((ws1 E s p k l).length : Int) ≤ _; omega) ?_
      have ek : k = n := by omega
      subst ek
      exact H
theorem S_X7_writeStack {d b : Nat} {h0 h : PH} {D : Nat → Int → Int} {s : Int → Int} {t : Int} {Q : Int → PH → Prop} {X : Nat → PH → Prop} {N : Int} {p : Int} (M : Mt b h0 h D s t) (W : WD D s N) (hvp : InR p) (hN9 : N ≤ 999000000) (hnm : NMv D) (H : ∀ (x : Int) h' D', (ck (tL D) p 0 (D 0 4 - 1) 2 = 0 → x = ((wsL D s p (s (511 + p)).toNat []).length : Nat) ∧ TX D D' (wsL D s p (s (511 + p)).toNat [])) → (ck (tL D) p 0 (D 0 4 - 1) 2 ≠ 0 → D' = D) → Mt b h0 h' D' s (ck (tL D) p 0 (D 0 4 - 1) 2) → Q x h') : RUN GQ (d + 4) m_X7_writeStack [pA b, pI p] h Q X := by
  obtain ⟨w1, w2, w3, wN, ws1, wI⟩ := id W
  have kL := tL_or D
  have k1 := ck_or (tL D) p 0 (D 0 4 - 1) 2
  rw [e_X7_writeStack]
  refine WP.of (RUN.mono GQ _) (cuts := [28]) (n := 400) (v_X7_writeStack_0 _ _ _ _ _ _ ?_)
  refine ⟨M.k0, ?_⟩
  refine S_X7_noProgram M W (by omega) (fun x2 h2 e2 M2 => ?_)
  refine ⟨ir (by omega) (by omega), fun c5 => ?_, fun c5 => ?_⟩
  · obtain ⟨I, V, sw⟩ := wI (by omega)
    have q0 := I.sn (p := p) (by omega)
    refine M2.p46 (fun h12 M12 => ?_)
    have T0 : TX D (dst D 0 46 0) [] := TX.nil (fun _ _ _ => rfl) (fun _ _ => rfl)
    refine ⟨M12.k0, ?_⟩
    try rw [M12.r11]
    refine M12.ld6 (by omega) (by omega) (fun er => ?_)
    try rw [er]
    clear er
    refine L_X7_writeStack_28 I hN9 (by omega) (by omega) hnm ((s (511 + p)).toNat) _ _ _ _ M12 T0 (by omega) (by show ((0 : Nat) : Int) ≤ _; omega) ?_
    refine fun x h' D' e T M => H x h' D' (fun _ => ⟨e, T⟩) (fun z => absurd (by omega) z) (M.castT (by omega))
  · exact H _ _ D (fun z => absurd z (by omega)) (fun _ => rfl) (M2.castT (by omega))
theorem L_X7_writeEnds_16 {d b : Nat} {h0 : PH} {s : Int → Int} {t : Int} {Q : Int → PH → Prop} {X : Nat → PH → Prop} {E : Nat → Int → Int} {N : Int} (I : HI (E 0 3) (E 0 4) (E 0 2) N s) (hN9 : N ≤ 999000000) : ∀ (n : Nat) (i : Int) (l : List Int) (D : Nat → Int → Int) (h : PH), (Mt b h0 h D s t) → (TX E D l) → (0 ≤ i ∧ i + n = tld s) → ((l.length : Int) ≤ 12 * i) → (∀ (x : Int) h' D', x = ((weL s n i l).length : Nat) → TX E D' (weL s n i l) → Mt b h0 h' D' s t → Q x h') → WP k_X7_writeEnds [] (RUN GQ (d + 2)) 0 0 (d + 3) Q X 16 [some (pA b), some (pI i)] [] h 0 0 := by
  intro n
  induction n with
  | zero =>
    intro i l D h M T hi0 hl H
    have e2 := I.e2
    have e1 := I.e1
    have tl : tld s ≤ 40 ∧ tld s ≤ s 2 ∧ 0 ≤ tld s := by unfold tld; split <;> omega
    refine WP.of (RUN.mono GQ _) (cuts := [16]) (n := 400) (v_X7_writeEnds_16 _ _ _ _ _ ?_)
    refine ⟨M.k0, ?_⟩
    refine S_X7_toldEnds M (by omega) (fun x18 e18 => ?_)
    subst e18
    have e2 := I.e2
    refine ⟨ir (by omega) (by omega), ir (by omega) (by omega), fun c21 => ?_, fun c21 => ?_⟩
    · exfalso; omega
    · refine ⟨M.k0, ?_⟩
      try rw [M.f46]
      rw [T.1]
      exact H _ _ _ rfl T M
  | succ n ih =>
    intro i l D h M T hi0 hl H
    have e2 := I.e2
    have e1 := I.e1
    have tl : tld s ≤ 40 ∧ tld s ≤ s 2 ∧ 0 ≤ tld s := by unfold tld; split <;> omega
    refine WP.of (RUN.mono GQ _) (cuts := [16]) (n := 400) (v_X7_writeEnds_16 _ _ _ _ _ ?_)
    refine ⟨M.k0, ?_⟩
    refine S_X7_toldEnds M (by omega) (fun x18 e18 => ?_)
    subst e18
    have e2 := I.e2
    refine ⟨ir (by omega) (by omega), ir (by omega) (by omega), fun c21 => ?_, fun c21 => ?_⟩
    · have tm := tm40 (x := s 2 - 1 - i) (by omega)
      have tm2 : Int.tmod (s 2 - 1 - i) 40 ≤ s 2 - 1 - i := by rw [Int.tmod_eq_emod_of_nonneg (by omega)]; omega
      have rr := I.hr (Int.tmod (s 2 - 1 - i) 40) (by omega) (by omega) (by omega)
      refine ⟨M.k0, ?_⟩
      refine S_X7_parts M T (by first | omega | (simp only [List.length_append, List.length_cons, List.length_nil]; omega)) (by omega) (fun x27 h27 D27 e27 T27 M27 => ?_)
      subst e27
      have y1 := sep_len l 32
      refine ⟨M27.k0, ?_⟩
      refine S_X7_ofEnd M27 (by omega) (by omega) (by omega) (fun x34 e34 => ?_)
      subst e34
      refine ⟨M27.k0, ?_⟩
      refine S_X7_saysNumber M27 T27 (by omega) (by first | omega | (simp only [List.length_append, List.length_cons, List.length_nil]; omega)) (fun x37 h37 D37 e37 T37 M37 => ?_)
      subst e37
      have y2 := num_len (rv s (Int.tmod (s 2 - 1 - i) 40) 0)
      refine ⟨M37.k0, ?_⟩
      refine S_X7_ofEnd M37 (by omega) (by omega) (by omega) (fun x44 e44 => ?_)
      subst e44
      refine S_X7_letterOf (by omega) (fun x47 e47 => ?_)
      subst e47
      refine ⟨M37.k0, ?_⟩
      refine S_X7_says M37 T37 (by first | omega | (simp only [List.length_append, List.length_cons, List.length_nil]; omega)) (fun x50 h50 D50 e50 T50 M50 => ?_)
      subst e50
      have y5 := we1_len (s := s) (i := i) l
      refine ih _ _ _ _ M50 T50 (by omega) (by show ((we1 s i l).length : Int) ≤ 12 * (i + 1); omega) ?_
      exact H
    · exfalso; omega
theorem S_X7_writeEnds {d b : Nat} {h0 h : PH} {D : Nat → Int → Int} {s : Int → Int} {t : Int} {Q : Int → PH → Prop} {X : Nat → PH → Prop} {N : Int} (M : Mt b h0 h D s t) (W : WD D s N) (hN9 : N ≤ 999000000) (hnm : NMv D) (H : ∀ (x : Int) h' D', (tL D = 0 → x = ((weL s (tld s).toNat 0 []).length : Nat) ∧ TX D D' (weL s (tld s).toNat 0 [])) → (tL D ≠ 0 → D' = D) → Mt b h0 h' D' s (tL D) → Q x h') : RUN GQ (d + 3) m_X7_writeEnds [pA b] h Q X := by
  obtain ⟨w1, w2, w3, wN, ws1, wI⟩ := id W
  have kL := tL_or D
  rw [e_X7_writeEnds]
  refine WP.of (RUN.mono GQ _) (cuts := [16]) (n := 400) (v_X7_writeEnds_0 _ _ _ _ _ ?_)
  refine ⟨M.k0, ?_⟩
  refine S_X7_notLoaded M W (fun x1 h1 e1 M1 => ?_)
  refine ⟨ir (by omega) (by omega), fun c4 => ?_, fun c4 => ?_⟩
  · obtain ⟨I, V, sw⟩ := wI (by omega)
    have q0 := I.e2
    have tl0 : 0 ≤ tld s := by unfold tld; split <;> omega
    refine M1.p46 (fun h11 M11 => ?_)
    have T0 : TX D (dst D 0 46 0) [] := TX.nil (fun _ _ _ => rfl) (fun _ _ => rfl)
    refine L_X7_writeEnds_16 I hN9 ((tld s).toNat) _ _ _ _ M11 T0 (by omega) (by show ((0 : Nat) : Int) ≤ 12 * 0; omega) ?_
    refine fun x h' D' e T M => H x h' D' (fun _ => ⟨e, T⟩) (fun z => absurd (by omega) z) (M.castT (by omega))
  · exact H _ _ D (fun z => absurd z (by omega)) (fun _ => rfl) (M1.castT (by omega))
theorem S_X7_textByte {d b : Nat} {h0 h : PH} {D : Nat → Int → Int} {s : Int → Int} {t : Int} {Q : Int → PH → Prop} {X : Nat → PH → Prop} {i : Int} (M : Mt b h0 h D s t) (hvi : InR i) (h46 : 0 ≤ D 0 46 ∧ D 0 46 ≤ 600) (h19 : ∀ e, 0 ≤ e → e < D 0 46 → InR (D 19 e)) (H : ∀ (x : Int) h', (ck 0 i 0 (D 0 46 - 1) 1 = 0 → x = D 19 i) → Mt b h0 h' D s (ck 0 i 0 (D 0 46 - 1) 1) → Q x h') : RUN GQ (d + 2) m_X7_textByte [pA b, pI i] h Q X := by
  have k1 := ck_or 0 i 0 (D 0 46 - 1) 1
  rw [e_X7_textByte]
  refine WP.of (RUN.mono GQ _) (cuts := []) (n := 400) (v_X7_textByte_0 _ _ _ _ _ ?_)
  refine M.p0 (fun h2 M2 => ?_)
  refine ⟨M2.k0, ?_⟩
  try rw [M2.f46]
  refine S_X7_inB (by omega) (by omega) (by omega) (fun x14 e14 => ?_)
  refine ⟨ir (by omega) (by omega), fun c17 => ?_, fun c17 => ?_⟩
  · refine ⟨M2.k0, ?_⟩
    refine S_X7_refuse M2 (by omega) (by omega) (by omega) (fun x26 h26 t26 e26 M26 => ?_)
    refine ⟨ir (by omega) (by omega), fun c29 => ?_, fun c29 => ?_⟩
    · refine ⟨M26.k0, ?_⟩
      try rw [M26.r45]
      refine M26.ld19 (by omega) (by omega) (fun er => ?_)
      try rw [er]
      clear er
      refine H _ _ (fun hT => ?_) (M26.castT (by omega))
      first
      | rfl
      | (exfalso; omega)
    · refine H _ _ (fun hT => ?_) (M26.castT (by omega))
      first
      | rfl
      | (exfalso; omega)
  · refine ⟨M2.k0, ?_⟩
    refine S_X7_refuse M2 (by omega) (by omega) (by omega) (fun x26 h26 t26 e26 M26 => ?_)
    refine ⟨ir (by omega) (by omega), fun c29 => ?_, fun c29 => ?_⟩
    · refine ⟨M26.k0, ?_⟩
      try rw [M26.r45]
      refine M26.ld19 (by omega) (by omega) (fun er => ?_)
      try rw [er]
      clear er
      refine H _ _ (fun hT => ?_) (M26.castT (by omega))
      first
      | rfl
      | (exfalso; omega)
    · refine H _ _ (fun hT => ?_) (M26.castT (by omega))
      first
      | rfl
      | (exfalso; omega)
