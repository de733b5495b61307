/-! the class's output (written by wip/whole/tools/eng.py) -/
section VCS
variable {call : PC} {mc ms fr : Nat} {Q : Int → PH → Prop} {X : Nat → PH → Prop} {K : PK}
set_option maxRecDepth 100000 in
theorem v_X3_restart_0 (a0 : Nat) (h : PH) (c s : Nat) (H : hk h a0 = 4 ∧ ∀ h1, h1 = hsi h a0 1 0 →
 Q 0 h1) : wpc k_X3_restart [] call mc ms fr Q X [] K 400 (pto 0 k_X3_restart) [some (pA a0)] [] h c s :=
  H
set_option maxRecDepth 100000 in
theorem v_X3_byteAt_0 (a0 : Nat) (i1 : Int) (h : PH) (c s : Nat) (H : InR i1 ∧ (i1 < 0 →
 Q ((-1)) h) ∧
(0 ≤ i1 →
 hk h a0 = 4 ∧ (20 ≤ hk h (hr h a0 0) ∧ hk h (hr h a0 0) ≤ 26) ∧ InR i1 ∧ InR ((hl h (hr h a0 0) : Int)) ∧ (i1 < ((hl h (hr h a0 0) : Int)) →
 hk h a0 = 4 ∧ hk h (hr h a0 0) = 21 ∧ (0 ≤ i1 ∧ i1 < (hl h (hr h a0 0) : Int)) ∧ Q (hi h (hr h a0 0) (Int.toNat i1)) h) ∧
(((hl h (hr h a0 0) : Int)) ≤ i1 →
 Q ((-1)) h))) : wpc k_X3_byteAt [] call mc ms fr Q X [] K 400 (pto 0 k_X3_byteAt) [some (pA a0), some (pI i1)] [] h c s :=
  H
set_option maxRecDepth 100000 in
theorem v_X3_putByte_0 (a0 : Nat) (i1 : Int) (h : PH) (c s : Nat) (H : hk h a0 = 4 ∧ hk h a0 = 4 ∧ (20 ≤ hk h (hr h a0 0) ∧ hk h (hr h a0 0) ≤ 26) ∧ InR (hi h a0 1) ∧ InR ((hl h (hr h a0 0) : Int)) ∧ ((hi h a0 1) < ((hl h (hr h a0 0) : Int)) →
 hk h a0 = 4 ∧ hk h a0 = 4 ∧ hk h (hr h a0 0) = 21 ∧ (0 ≤ (hi h a0 1) ∧ (hi h a0 1) < (hl h (hr h a0 0) : Int)) ∧ ∀ h1, h1 = hsi h (hr h a0 0) (Int.toNat ((hi h a0 1))) (bi2b (bi2b i1)) →
 hk h1 a0 = 4 ∧ hk h1 a0 = 4 ∧ ∀ h2, h2 = hsi h1 a0 1 ((hi h1 a0 1) + 1) →
 Q 0 h2) ∧
(((hl h (hr h a0 0) : Int)) ≤ (hi h a0 1) →
 Q 0 h)) : wpc k_X3_putByte [] call mc ms fr Q X [] K 400 (pto 0 k_X3_putByte) [some (pA a0), some (pI i1)] [] h c s :=
  H
set_option maxRecDepth 100000 in
theorem v_X3_putNumber_0 (a0 : Nat) (i1 : Int) (z2 : Option PV) (z3 : Option PV) (z4 : Option PV) (z5 : Option PV) (h : PH) (c s : Nat) (H : InR i1 ∧ InR 10 ∧ (10 : Int) ≠ 0 ∧ K 7 [some (pA a0), some (pI i1), some (pI 1), some (pI (Int.tdiv i1 10)), z4, z5] [] h c s) : wpc k_X3_putNumber [] call mc ms fr Q X [7, 53] K 400 (pto 0 k_X3_putNumber) [some (pA a0), some (pI i1), z2, z3, z4, z5] [] h c s :=
  H
set_option maxRecDepth 100000 in
theorem v_X3_putNumber_7 (a0 : Nat) (i1 : Int) (i2 : Int) (i3 : Int) (z4 : Option PV) (z5 : Option PV) (h : PH) (c s : Nat) (H : InR i3 ∧ (0 < i3 →
 InR i2 ∧ InR 10 ∧ (i2 < 10 →
 InR i3 ∧ InR 10 ∧ (10 : Int) ≠ 0 ∧ K 7 [some (pA a0), some (pI i1), some (pI (i2 + 1)), some (pI (Int.tdiv i3 10)), z4, z5] [] h c s) ∧
(10 ≤ i2 →
 hk h a0 = 4 ∧ hk h a0 = 4 ∧ (20 ≤ hk h (hr h a0 0) ∧ hk h (hr h a0 0) ≤ 26) ∧ InR ((hi h a0 1) + i2) ∧ InR ((hl h (hr h a0 0) : Int)) ∧ (((hl h (hr h a0 0) : Int)) < ((hi h a0 1) + i2) →
 Q 0 h) ∧
(((hi h a0 1) + i2) ≤ ((hl h (hr h a0 0) : Int)) →
 K 53 [some (pA a0), some (pI i1), some (pI i2), some (pI ((hi h a0 1) + i2)), some (pI i1), some (pI (((hi h a0 1) + i2) - 1))] [] h c s))) ∧
(i3 ≤ 0 →
 hk h a0 = 4 ∧ hk h a0 = 4 ∧ (20 ≤ hk h (hr h a0 0) ∧ hk h (hr h a0 0) ≤ 26) ∧ InR ((hi h a0 1) + i2) ∧ InR ((hl h (hr h a0 0) : Int)) ∧ (((hl h (hr h a0 0) : Int)) < ((hi h a0 1) + i2) →
 Q 0 h) ∧
(((hi h a0 1) + i2) ≤ ((hl h (hr h a0 0) : Int)) →
 K 53 [some (pA a0), some (pI i1), some (pI i2), some (pI ((hi h a0 1) + i2)), some (pI i1), some (pI (((hi h a0 1) + i2) - 1))] [] h c s))) : wpc k_X3_putNumber [] call mc ms fr Q X [7, 53] K 400 (pto 7 k_X3_putNumber) [some (pA a0), some (pI i1), some (pI i2), some (pI i3), z4, z5] [] h c s :=
  H
set_option maxRecDepth 100000 in
theorem v_X3_putNumber_53 (a0 : Nat) (i1 : Int) (i2 : Int) (i3 : Int) (i4 : Int) (i5 : Int) (h : PH) (c s : Nat) (H : hk h a0 = 4 ∧ InR i5 ∧ InR (hi h a0 1) ∧ (i5 < (hi h a0 1) →
 hk h a0 = 4 ∧ ∀ h1, h1 = hsi h a0 1 i3 →
 Q 0 h1) ∧
((hi h a0 1) ≤ i5 →
 hk h a0 = 4 ∧ InR i4 ∧ InR 10 ∧ (10 : Int) ≠ 0 ∧ hk h (hr h a0 0) = 21 ∧ (0 ≤ i5 ∧ i5 < (hl h (hr h a0 0) : Int)) ∧ ∀ h2, h2 = hsi h (hr h a0 0) (Int.toNat i5) (bi2b (bi2b (48 + (Int.tmod i4 10)))) →
 InR i4 ∧ InR 10 ∧ (10 : Int) ≠ 0 ∧ K 53 [some (pA a0), some (pI i1), some (pI i2), some (pI i3), some (pI (Int.tdiv i4 10)), some (pI (i5 + (-1)))] [] h2 c s)) : wpc k_X3_putNumber [] call mc ms fr Q X [7, 53] K 400 (pto 53 k_X3_putNumber) [some (pA a0), some (pI i1), some (pI i2), some (pI i3), some (pI i4), some (pI i5)] [] h c s :=
  H
set_option maxRecDepth 100000 in
theorem v_X2_lengthOf_0 (a0 : Nat) (i1 : Int) (h : PH) (c s : Nat) (H : InR i1 ∧ (i1 < 0 →
 Q 0 h) ∧
(0 ≤ i1 →
 hk h a0 = 3 ∧ InR i1 ∧ InR (hi h a0 2) ∧ (i1 < (hi h a0 2) →
 hk h a0 = 3 ∧ (20 ≤ hk h (hr h a0 0) ∧ hk h (hr h a0 0) ≤ 26) ∧ InR i1 ∧ InR ((hl h (hr h a0 0) : Int)) ∧ (i1 < ((hl h (hr h a0 0) : Int)) →
 hk h a0 = 3 ∧ (hk h (hr h a0 0) = 20 ∨ hk h (hr h a0 0) = 26) ∧ (0 ≤ i1 ∧ i1 < (hl h (hr h a0 0) : Int)) ∧ Q (hi h (hr h a0 0) (Int.toNat i1)) h) ∧
(((hl h (hr h a0 0) : Int)) ≤ i1 →
 Q 0 h)) ∧
((hi h a0 2) ≤ i1 →
 Q 0 h))) : wpc k_X2_lengthOf [] call mc ms fr Q X [] K 400 (pto 0 k_X2_lengthOf) [some (pA a0), some (pI i1)] [] h c s :=
  H
set_option maxRecDepth 100000 in
theorem v_X2_letterOf_0 (a0 : Nat) (i1 : Int) (i2 : Int) (z3 : Option PV) (h : PH) (c s : Nat) (H : InR ((i1 * 7) + i2) ∧ (((i1 * 7) + i2) < 0 →
 (-128 ≤ (0 : Int) ∧ (0 : Int) ≤ 127) ∧ Q 0 h) ∧
(0 ≤ ((i1 * 7) + i2) →
 hk h a0 = 3 ∧ (20 ≤ hk h (hr h a0 1) ∧ hk h (hr h a0 1) ≤ 26) ∧ InR ((i1 * 7) + i2) ∧ InR ((hl h (hr h a0 1) : Int)) ∧ (((i1 * 7) + i2) < ((hl h (hr h a0 1) : Int)) →
 hk h a0 = 3 ∧ hk h (hr h a0 1) = 21 ∧ (0 ≤ ((i1 * 7) + i2) ∧ ((i1 * 7) + i2) < (hl h (hr h a0 1) : Int)) ∧ (-128 ≤ (hi h (hr h a0 1) (Int.toNat (((i1 * 7) + i2)))) ∧ (hi h (hr h a0 1) (Int.toNat (((i1 * 7) + i2)))) ≤ 127) ∧ Q (hi h (hr h a0 1) (Int.toNat (((i1 * 7) + i2)))) h) ∧
(((hl h (hr h a0 1) : Int)) ≤ ((i1 * 7) + i2) →
 (-128 ≤ (0 : Int) ∧ (0 : Int) ≤ 127) ∧ Q 0 h))) : wpc k_X2_letterOf [] call mc ms fr Q X [] K 400 (pto 0 k_X2_letterOf) [some (pA a0), some (pI i1), some (pI i2), z3] [] h c s :=
  H
set_option maxRecDepth 100000 in
theorem v_X3_putName_0 (a0 : Nat) (a1 : Nat) (i2 : Int) (z3 : Option PV) (h : PH) (c s : Nat) (H : K 2 [some (pA a0), some (pA a1), some (pI i2), some (pI 0)] [] h c s) : wpc k_X3_putName [] call mc ms fr Q X [2] K 400 (pto 0 k_X3_putName) [some (pA a0), some (pA a1), some (pI i2), z3] [] h c s :=
  H
set_option maxRecDepth 100000 in
theorem v_X3_putName_2 (a0 : Nat) (a1 : Nat) (i2 : Int) (i3 : Int) (h : PH) (c s : Nat) (H : hk h a1 = 3 ∧ call m_X2_lengthOf [pA a1, pI i2] h (fun x1 h1 =>
 InR i3 ∧ InR x1 ∧ (i3 < x1 →
 hk h1 a1 = 3 ∧ call m_X2_letterOf [pA a1, pI i2, pI i3] h1 (fun x2 h2 =>
 hk h2 a0 = 4 ∧ call m_X3_putByte [pA a0, pI x2] h2 (fun _ h3 =>
 K 2 [some (pA a0), some (pA a1), some (pI i2), some (pI (i3 + 1))] [] h3 c s) X) X) ∧
(x1 ≤ i3 →
 Q 0 h1)) X) : wpc k_X3_putName [] call mc ms fr Q X [2] K 400 (pto 2 k_X3_putName) [some (pA a0), some (pA a1), some (pI i2), some (pI i3)] [] h c s :=
  H
end VCS
theorem S_X3_restart {d b : Nat} {h0 h : PH} {E : Nat → Int → Int} {Q : Int → PH → Prop} {X : Nat → PH → Prop} (M : Ox b h0 h E)  (H : ∀ (x : Int) h', x = 0 → Ox b h0 h' (dst E 0 1 0) → Q x h') : RUN GQ (d + 1) m_X3_restart [pA b] h Q X := by
  rw [e_X3_restart]
  refine WP.of (RUN.mono GQ _) (cuts := []) (n := 400) (v_X3_restart_0 _ _ _ _ ?_)
  refine Bx.pf1 M 0 4 (by decide) rfl (fun h2 M2 => ?_)
  exact H _ _ rfl M2
theorem S_X3_byteAt {d b : Nat} {h0 h : PH} {E : Nat → Int → Int} {Q : Int → PH → Prop} {X : Nat → PH → Prop} {i : Int} (M : Ox b h0 h E) (hix : 0 ≤ i ∧ i < 400) (H : ∀ x : Int, x = (E 1 i) → Q x h) : RUN GQ (d + 1) m_X3_byteAt [pA b, pI i] h Q X := by
  rw [e_X3_byteAt]
  refine WP.of (RUN.mono GQ _) (cuts := []) (n := 400) (v_X3_byteAt_0 _ _ _ _ _ ?_)
  refine ⟨ir (by omega) (by omega), fun c1 => ?_, fun c1 => ?_⟩
  · first
    | (exfalso; omega)
    | (refine H _ ?_
       first | rfl | omega)
  · refine ⟨Bx.k M 0 (by decide) rfl, ?_⟩
    try rw [show hr h b 0 = b + 1 from Bx.r M 0 0 1 (by decide)]
    refine Bx.al M 1 400 21 (by decide) rfl (by decide) rfl (fun el9 => ?_)
    refine ⟨ir (by omega) (by omega), ir (by omega) (by omega), fun c10 => ?_, fun c10 => ?_⟩
    · refine ⟨Bx.k M 0 (by decide) rfl, ?_⟩
      try rw [show hr h b 0 = b + 1 from Bx.r M 0 0 1 (by decide)]
      refine Bx.ldb M 1 400 21 (by decide) rfl rfl (by omega) (by omega) (fun er => ?_)
      try rw [er]
      clear er
      first
      | (exfalso; omega)
      | (refine H _ ?_
         first | rfl | omega)
    · first
      | (exfalso; omega)
      | (refine H _ ?_
         first | rfl | omega)
theorem S_X3_putByte {d b : Nat} {h0 h : PH} {E : Nat → Int → Int} {l : List Int} {Q : Int → PH → Prop} {X : Nat → PH → Prop} {ch : Int} (M : Ox b h0 h E) (T : TXO E l) (hc : 0 ≤ ch ∧ ch ≤ 127) (hl : (l.length : Int) < 400) (H : ∀ (x : Int) h' E', x = 0 → Ox b h0 h' E' → TXO E' (l ++ [ch]) → Q x h') : RUN GQ (d + 1) m_X3_putByte [pA b, pI ch] h Q X := by
  have t1 := T.1
  rw [e_X3_putByte]
  refine WP.of (RUN.mono GQ _) (cuts := []) (n := 400) (v_X3_putByte_0 _ _ _ _ _ ?_)
  refine ⟨Bx.k M 0 (by decide) rfl, ?_⟩
  try rw [show hi h b 1 = _ from Bx.f1 M 0 (by decide)]
  refine ⟨Bx.k M 0 (by decide) rfl, ?_⟩
  try rw [show hr h b 0 = b + 1 from Bx.r M 0 0 1 (by decide)]
  refine Bx.al M 1 400 21 (by decide) rfl (by decide) rfl (fun el8 => ?_)
  refine ⟨ir (by omega) (by omega), ir (by omega) (by omega), fun c9 => ?_, fun c9 => ?_⟩
  · refine ⟨Bx.k M 0 (by decide) rfl, ?_⟩
    try rw [show hr h b 0 = b + 1 from Bx.r M 0 0 1 (by decide)]
    refine ⟨Bx.k M 0 (by decide) rfl, ?_⟩
    try rw [show hi h b 1 = _ from Bx.f1 M 0 (by decide)]
    refine Bx.asb M 1 400 (by decide) rfl rfl (by omega) (by omega) (fun h22 M22 => ?_)
    rw [bi2b_id (x := ch) (by omega), bi2b_id (x := ch) (by omega)] at M22
    refine ⟨Bx.k M22 0 (by decide) rfl, ?_⟩
    try rw [show hi h22 b 1 = _ from Bx.f1 M22 0 (by decide)]
    rw [dst_row (by decide)]
    refine Bx.pf1 M22 0 4 (by decide) rfl (fun h30 M30 => ?_)
    first
    | (exfalso; omega)
    | exact H _ _ _ rfl M30 T.put
  · first
    | (exfalso; omega)
    | exact H _ _ _ rfl M T.put
theorem L_X3_putNumber_53 {d b : Nat} {h0 : PH} {l : List Int} {Q : Int → PH → Prop} {X : Nat → PH → Prop} {v : Int} {dg bh : Int} {g : Nat} (hv : 0 ≤ v ∧ v ≤ 999999999) (hb : bh = (l.length : Int) + g) (hg : (l.length : Int) + g ≤ 400) : ∀ (n : Nat) (rs at' : Int) (E : Nat → Int → Int) (h : PH), (Ox b h0 h E) → (PN E l v g n) → (n ≤ g) → (at' = (l.length : Int) + n - 1) → (rs = dv v (g - n)) → (∀ (x : Int) h' E', x = 0 → Ox b h0 h' E' → TXO E' (l ++ dgl v g) → Q x h') → WP k_X3_putNumber [] (RUN GQ (d + 0)) 0 0 (d + 1) Q X 53 [some (pA b), some (pI v), some (pI dg), some (pI bh), some (pI rs), some (pI at')] [] h 0 0 := by
  intro n
  induction n with
  | zero =>
    intro rs at' E h M hp hn ha hrs H
    have t1 := hp.1
    refine WP.of (RUN.mono GQ _) (cuts := [7, 53]) (n := 400) (v_X3_putNumber_53 _ _ _ _ _ _ _ _ _ ?_)
    refine ⟨Bx.k M 0 (by decide) rfl, ?_⟩
    try rw [show hi h b 1 = _ from Bx.f1 M 0 (by decide)]
    refine ⟨ir (by omega) (by omega), ir (by omega) (by omega), fun c59 => ?_, fun c59 => ?_⟩
    · refine Bx.pf1 M 0 4 (by decide) rfl (fun h93 M93 => ?_)
      exact H _ _ _ rfl M93 (hp.done (by omega))
    · exfalso; omega
  | succ n ih =>
    intro rs at' E h M hp hn ha hrs H
    have t1 := hp.1
    have d2 := dv_pos hv.1 (g - (n + 1))
    have e1 : g - (n + 1) = g - 1 - n := by omega
    have m1 : Int.tmod rs 10 = dv v (g - 1 - n) % 10 := by rw [hrs, Int.tmod_eq_emod_of_nonneg d2.1, e1]
    have dt : Int.tdiv rs 10 = dv v (g - n) := by rw [hrs, Int.tdiv_eq_ediv_of_nonneg d2.1, show g - n = (g - (n + 1)) + 1 by omega]; rfl
    refine WP.of (RUN.mono GQ _) (cuts := [7, 53]) (n := 400) (v_X3_putNumber_53 _ _ _ _ _ _ _ _ _ ?_)
    refine ⟨Bx.k M 0 (by decide) rfl, ?_⟩
    try rw [show hi h b 1 = _ from Bx.f1 M 0 (by decide)]
    refine ⟨ir (by omega) (by omega), ir (by omega) (by omega), fun c59 => ?_, fun c59 => ?_⟩
    · exfalso; omega
    · refine ⟨Bx.k M 0 (by decide) rfl, ?_⟩
      try rw [show hr h b 0 = b + 1 from Bx.r M 0 0 1 (by decide)]
      refine ⟨ir (by omega) (by omega), ir (by omega) (by omega), (by omega), ?_⟩
      refine Bx.asb M 1 400 (by decide) rfl rfl (by omega) (by omega) (fun h77 M77 => ?_)
      rw [m1, bi2b_id (x := 48 + dv v (g - 1 - n) % 10) (by omega), bi2b_id (x := 48 + dv v (g - 1 - n) % 10) (by omega)] at M77
      refine ⟨ir (by omega) (by omega), ir (by omega) (by omega), (by omega), ?_⟩
      refine ih _ _ _ _ M77 (by exact hp.step (by omega) (by omega) rfl) (by omega) (by omega) (by exact dt) ?_
      exact H
theorem L_X3_putNumber_7 {d b : Nat} {h0 : PH} {E : Nat → Int → Int} {l : List Int} {Q : Int → PH → Prop} {X : Nat → PH → Prop} {v : Int} {h : PH} (M : Ox b h0 h E) (T : TXO E l) (hv : 0 ≤ v ∧ v ≤ 999999999) : ∀ (n : Nat) (dg rs : Int) (z4 z5 : Option PV) (j : Nat), (j + n = 9) → (dg = (j : Int) + 1) → (rs = dv v (j + 1)) → ((l.length : Int) + ((ndl v n j + 1 : Nat) : Int) ≤ 400) → (∀ (x : Int) h' E', x = 0 → Ox b h0 h' E' → TXO E' (l ++ dgl v (ndl v n j + 1)) → Q x h') → WP k_X3_putNumber [] (RUN GQ (d + 0)) 0 0 (d + 1) Q X 7 [some (pA b), some (pI v), some (pI dg), some (pI rs), z4, z5] [] h 0 0 := by
  intro n
  induction n with
  | zero =>
    intro dg rs z4 z5 j hj hd hrs hl H
    have t1 := T.1
    have d2 := dv_pos hv.1 (j + 1)
    have d3 := dv_9 hv
    have dt : Int.tdiv rs 10 = dv v (j + 1 + 1) := by rw [hrs, Int.tdiv_eq_ediv_of_nonneg d2.1]; rfl
    have d10 : j = 9 → dv v (j + 1) = 0 := fun e => by rw [e]; show dv v 9 / 10 = 0; rw [d3]; rfl
    refine WP.of (RUN.mono GQ _) (cuts := [7, 53]) (n := 400) (v_X3_putNumber_7 _ _ _ _ _ _ _ _ _ ?_)
    refine ⟨ir (by omega) (by omega), fun c8 => ?_, fun c8 => ?_⟩
    · exfalso; omega
    · refine ⟨Bx.k M 0 (by decide) rfl, ?_⟩
      try rw [show hi h b 1 = _ from Bx.f1 M 0 (by decide)]
      refine ⟨Bx.k M 0 (by decide) rfl, ?_⟩
      try rw [show hr h b 0 = b + 1 from Bx.r M 0 0 1 (by decide)]
      refine Bx.al M 1 400 21 (by decide) rfl (by decide) rfl (fun el40 => ?_)
      refine ⟨ir (by omega) (by omega), ir (by omega) (by omega), fun c41 => ?_, fun c41 => ?_⟩
      · exfalso
        first
        | (rw [ndl, if_neg (by omega)] at hl; omega)
        | (rw [ndl] at hl; omega)
      · refine L_X3_putNumber_53 (l := l) (g := j + 1) hv (by omega) (by first | (rw [ndl, if_neg (by omega)] at hl; omega) | (rw [ndl] at hl; omega)) (j + 1) _ _ _ _ M (by exact T.pn v _) (by omega) (by omega) (by rw [Nat.sub_self]; rfl) ?_
        first
        | exact H
        | (rw [ndl, if_neg (by omega)] at H; exact H)
  | succ n ih =>
    intro dg rs z4 z5 j hj hd hrs hl H
    have t1 := T.1
    have d2 := dv_pos hv.1 (j + 1)
    have d3 := dv_9 hv
    have dt : Int.tdiv rs 10 = dv v (j + 1 + 1) := by rw [hrs, Int.tdiv_eq_ediv_of_nonneg d2.1]; rfl
    have d10 : j = 9 → dv v (j + 1) = 0 := fun e => by rw [e]; show dv v 9 / 10 = 0; rw [d3]; rfl
    refine WP.of (RUN.mono GQ _) (cuts := [7, 53]) (n := 400) (v_X3_putNumber_7 _ _ _ _ _ _ _ _ _ ?_)
    refine ⟨ir (by omega) (by omega), fun c8 => ?_, fun c8 => ?_⟩
    · refine ⟨ir (by omega) (by omega), ir (by omega) (by omega), fun c14 => ?_, fun c14 => ?_⟩
      · refine ⟨ir (by omega) (by omega), ir (by omega) (by omega), (by omega), ?_⟩
        refine ih _ _ _ _ (j + 1) (by omega) (by omega) (by exact dt) (by rw [ndl, if_pos (by omega)] at hl; exact hl) ?_
        rw [ndl, if_pos (by omega)] at H
        exact H
      · exfalso; omega
    · refine ⟨Bx.k M 0 (by decide) rfl, ?_⟩
      try rw [show hi h b 1 = _ from Bx.f1 M 0 (by decide)]
      refine ⟨Bx.k M 0 (by decide) rfl, ?_⟩
      try rw [show hr h b 0 = b + 1 from Bx.r M 0 0 1 (by decide)]
      refine Bx.al M 1 400 21 (by decide) rfl (by decide) rfl (fun el40 => ?_)
      refine ⟨ir (by omega) (by omega), ir (by omega) (by omega), fun c41 => ?_, fun c41 => ?_⟩
      · exfalso
        first
        | (rw [ndl, if_neg (by omega)] at hl; omega)
        | (rw [ndl] at hl; omega)
      · refine L_X3_putNumber_53 (l := l) (g := j + 1) hv (by omega) (by first | (rw [ndl, if_neg (by omega)] at hl; omega) | (rw [ndl] at hl; omega)) (j + 1) _ _ _ _ M (by exact T.pn v _) (by omega) (by omega) (by rw [Nat.sub_self]; rfl) ?_
        first
        | exact H
        | (rw [ndl, if_neg (by omega)] at H; exact H)
theorem S_X3_putNumber {d b : Nat} {h0 h : PH} {E : Nat → Int → Int} {l : List Int} {Q : Int → PH → Prop} {X : Nat → PH → Prop} {v : Int} (M : Ox b h0 h E) (T : TXO E l) (hv : 0 ≤ v ∧ v ≤ 999999999) (hl : (l.length : Int) + ((numL v).length : Nat) ≤ 400) (H : ∀ (x : Int) h' E', x = 0 → Ox b h0 h' E' → TXO E' (l ++ numL v) → Q x h') : RUN GQ (d + 1) m_X3_putNumber [pA b, pI v] h Q X := by
  have t1 := T.1
  rw [e_X3_putNumber]
  refine WP.of (RUN.mono GQ _) (cuts := [7, 53]) (n := 400) (v_X3_putNumber_0 _ _ _ _ _ _ _ _ _ ?_)
  refine ⟨ir (by omega) (by omega), ir (by omega) (by omega), (by omega), ?_⟩
  refine L_X3_putNumber_7 M T hv (9) _ _ _ _ 0 (by omega) (by rfl) (by rw [Int.tdiv_eq_ediv_of_nonneg hv.1]; rfl) (by show (l.length : Int) + ((ndl v 9 0 + 1 : Nat) : Int) ≤ 400; have e := dgl_len v (ndl v 9 0 + 1); unfold numL at hl; rw [e] at hl; exact hl) ?_
  exact H
theorem S_X2_lengthOf_k {d b : Nat} {h0 h : PH} {EP : Nat → Int → Int} {Q : Int → PH → Prop} {X : Nat → PH → Prop} {i : Int} (M : Px b h0 h EP) (hix : 0 ≤ i ∧ i < EP 1 2 ∧ EP 1 2 ≤ 8) (H : ∀ x : Int, x = EP 2 i → Q x h) : RUN GQ (d + 1) m_X2_lengthOf [pA (b + 1), pI i] h Q X := by
  rw [e_X2_lengthOf]
  refine WP.of (RUN.mono GQ _) (cuts := []) (n := 400) (v_X2_lengthOf_0 _ _ _ _ _ ?_)
  refine ⟨ir (by omega) (by omega), fun c1 => ?_, fun c1 => ?_⟩
  · first
    | (exfalso; omega)
    | (refine H _ ?_
       first | rfl | omega)
  · refine ⟨Bx.k M 1 (by decide) rfl, ?_⟩
    try rw [show hi h (b + 1) 2 = _ from Bx.f2 M 1 (by decide)]
    refine ⟨ir (by omega) (by omega), ir (by omega) (by omega), fun c9 => ?_, fun c9 => ?_⟩
    · refine ⟨Bx.k M 1 (by decide) rfl, ?_⟩
      try rw [show hr h (b + 1) 0 = b + 2 from Bx.r M 1 0 2 (by decide)]
      refine Bx.al M 2 8 20 (by decide) rfl (by decide) rfl (fun el17 => ?_)
      refine ⟨ir (by omega) (by omega), ir (by omega) (by omega), fun c18 => ?_, fun c18 => ?_⟩
      · refine ⟨Bx.k M 1 (by decide) rfl, ?_⟩
        try rw [show hr h (b + 1) 0 = b + 2 from Bx.r M 1 0 2 (by decide)]
        refine Bx.ld M 2 8 (by decide) rfl rfl (by omega) (by omega) (fun er => ?_)
        try rw [er]
        clear er
        first
        | (exfalso; omega)
        | (refine H _ ?_
           first | rfl | omega)
      · first
        | (exfalso; omega)
        | (refine H _ ?_
           first | rfl | omega)
    · first
      | (exfalso; omega)
      | (refine H _ ?_
         first | rfl | omega)
theorem S_X2_letterOf_k {d b : Nat} {h0 h : PH} {EP : Nat → Int → Int} {Q : Int → PH → Prop} {X : Nat → PH → Prop} {i j : Int} (M : Px b h0 h EP) (hix : 0 ≤ i ∧ i < 8) (hj : 0 ≤ j ∧ j < 7) (hrg : -128 ≤ EP 3 (i * 7 + j) ∧ EP 3 (i * 7 + j) ≤ 127) (H : ∀ x : Int, x = EP 3 (i * 7 + j) → Q x h) : RUN GQ (d + 1) m_X2_letterOf [pA (b + 1), pI i, pI j] h Q X := by
  rw [e_X2_letterOf]
  refine WP.of (RUN.mono GQ _) (cuts := []) (n := 400) (v_X2_letterOf_0 _ _ _ _ _ _ _ ?_)
  refine ⟨ir (by omega) (by omega), fun c8 => ?_, fun c8 => ?_⟩
  · refine ⟨(by omega), ?_⟩
    first
    | (exfalso; omega)
    | (refine H _ ?_
       first | rfl | omega)
  · refine ⟨Bx.k M 1 (by decide) rfl, ?_⟩
    try rw [show hr h (b + 1) 1 = b + 3 from Bx.r M 1 1 3 (by decide)]
    refine Bx.al M 3 56 21 (by decide) rfl (by decide) rfl (fun el16 => ?_)
    refine ⟨ir (by omega) (by omega), ir (by omega) (by omega), fun c17 => ?_, fun c17 => ?_⟩
    · refine ⟨Bx.k M 1 (by decide) rfl, ?_⟩
      try rw [show hr h (b + 1) 1 = b + 3 from Bx.r M 1 1 3 (by decide)]
      refine Bx.ldb M 3 56 21 (by decide) rfl rfl (by omega) (by omega) (fun er => ?_)
      try rw [er]
      clear er
      refine ⟨(by omega), ?_⟩
      first
      | (exfalso; omega)
      | (refine H _ ?_
         first | rfl | omega)
    · refine ⟨(by omega), ?_⟩
      first
      | (exfalso; omega)
      | (refine H _ ?_
         first | rfl | omega)
theorem S_X2_lengthOf_p {d b : Nat} {h0 h : PH} {EP : Nat → Int → Int} {Q : Int → PH → Prop} {X : Nat → PH → Prop} {i : Int} (M : Px b h0 h EP) (hix : 0 ≤ i ∧ i < EP 4 2 ∧ EP 4 2 ≤ 8) (H : ∀ x : Int, x = EP 5 i → Q x h) : RUN GQ (d + 1) m_X2_lengthOf [pA (b + 4), pI i] h Q X := by
  rw [e_X2_lengthOf]
  refine WP.of (RUN.mono GQ _) (cuts := []) (n := 400) (v_X2_lengthOf_0 _ _ _ _ _ ?_)
  refine ⟨ir (by omega) (by omega), fun c1 => ?_, fun c1 => ?_⟩
  · first
    | (exfalso; omega)
    | (refine H _ ?_
       first | rfl | omega)
  · refine ⟨Bx.k M 4 (by decide) rfl, ?_⟩
    try rw [show hi h (b + 4) 2 = _ from Bx.f2 M 4 (by decide)]
    refine ⟨ir (by omega) (by omega), ir (by omega) (by omega), fun c9 => ?_, fun c9 => ?_⟩
    · refine ⟨Bx.k M 4 (by decide) rfl, ?_⟩
      try rw [show hr h (b + 4) 0 = b + 5 from Bx.r M 4 0 5 (by decide)]
      refine Bx.al M 5 8 20 (by decide) rfl (by decide) rfl (fun el17 => ?_)
      refine ⟨ir (by omega) (by omega), ir (by omega) (by omega), fun c18 => ?_, fun c18 => ?_⟩
      · refine ⟨Bx.k M 4 (by decide) rfl, ?_⟩
        try rw [show hr h (b + 4) 0 = b + 5 from Bx.r M 4 0 5 (by decide)]
        refine Bx.ld M 5 8 (by decide) rfl rfl (by omega) (by omega) (fun er => ?_)
        try rw [er]
        clear er
        first
        | (exfalso; omega)
        | (refine H _ ?_
           first | rfl | omega)
      · first
        | (exfalso; omega)
        | (refine H _ ?_
           first | rfl | omega)
    · first
      | (exfalso; omega)
      | (refine H _ ?_
         first | rfl | omega)
theorem S_X2_letterOf_p {d b : Nat} {h0 h : PH} {EP : Nat → Int → Int} {Q : Int → PH → Prop} {X : Nat → PH → Prop} {i j : Int} (M : Px b h0 h EP) (hix : 0 ≤ i ∧ i < 8) (hj : 0 ≤ j ∧ j < 7) (hrg : -128 ≤ EP 6 (i * 7 + j) ∧ EP 6 (i * 7 + j) ≤ 127) (H : ∀ x : Int, x = EP 6 (i * 7 + j) → Q x h) : RUN GQ (d + 1) m_X2_letterOf [pA (b + 4), pI i, pI j] h Q X := by
  rw [e_X2_letterOf]
  refine WP.of (RUN.mono GQ _) (cuts := []) (n := 400) (v_X2_letterOf_0 _ _ _ _ _ _ _ ?_)
  refine ⟨ir (by omega) (by omega), fun c8 => ?_, fun c8 => ?_⟩
  · refine ⟨(by omega), ?_⟩
    first
    | (exfalso; omega)
    | (refine H _ ?_
       first | rfl | omega)
  · refine ⟨Bx.k M 4 (by decide) rfl, ?_⟩
    try rw [show hr h (b + 4) 1 = b + 6 from Bx.r M 4 1 6 (by decide)]
    refine Bx.al M 6 56 21 (by decide) rfl (by decide) rfl (fun el16 => ?_)
    refine ⟨ir (by omega) (by omega), ir (by omega) (by omega), fun c17 => ?_, fun c17 => ?_⟩
    · refine ⟨Bx.k M 4 (by decide) rfl, ?_⟩
      try rw [show hr h (b + 4) 1 = b + 6 from Bx.r M 4 1 6 (by decide)]
      refine Bx.ldb M 6 56 21 (by decide) rfl rfl (by omega) (by omega) (fun er => ?_)
      try rw [er]
      clear er
      refine ⟨(by omega), ?_⟩
      first
      | (exfalso; omega)
      | (refine H _ ?_
         first | rfl | omega)
    · refine ⟨(by omega), ?_⟩
      first
      | (exfalso; omega)
      | (refine H _ ?_
         first | rfl | omega)
theorem L_X3_putName_2 {d b q : Nat} {h0 : PH}  {Q : Int → PH → Prop} {X : Nat → PH → Prop} {f : Int → Int} {K : Int} {kd : Int} {EP : Nat → Int → Int} (L : Px q h0 h0 EP) (hq : b + 2 ≤ q ∨ q + 10 ≤ b) (hK1 : EP 1 2 = K) (hK : 0 ≤ K ∧ K ≤ 8) (NK : NR (EP 2) (EP 3) f K) (hkd : 0 ≤ kd ∧ kd < K) : ∀ (n : Nat) (i : Int) (l : List Int) (E : Nat → Int → Int) (h : PH), (Ox b h0 h E) → (TXO E l) → (0 ≤ i ∧ i + n = 7) → (i ≤ EP 2 kd) → ((l.length : Int) + n ≤ 399) → (∀ (x : Int) h' E', x = 0 → Ox b h0 h' E' → TXO E' (l ++ chL (fun j => f (7 * kd + j)) n i) → Q x h') → WP k_X3_putName [] (RUN GQ (d + 1)) 0 0 (d + 2) Q X 2 [some (pA b), some (pA (q + 1)), some (pI kd), some (pI i)] [] h 0 0 := by
  intro n
  induction n with
  | zero =>
    intro i l E h M T hi0 hi1 hl H
    obtain ⟨n1, n2, n3⟩ := NK kd hkd.1 hkd.2
    have t1 := T.1
    refine WP.of (RUN.mono GQ _) (cuts := [2]) (n := 400) (v_X3_putName_2 _ _ _ _ _ _ _ ?_)
    refine ⟨Bx.k (Bx.sa L M.2.1 hq) 1 (by decide) rfl, ?_⟩
    refine S_X2_lengthOf_k (Bx.sa L M.2.1 hq) (by rw [hK1]; omega) (fun x5 e5 => ?_)
    subst e5
    refine ⟨ir (by omega) (by omega), ir (by omega) (by omega), fun c8 => ?_, fun c8 => ?_⟩
    · exfalso; omega
    · first
      | exact H _ _ _ rfl M (T.cast (by rw [chL, List.append_nil]))
      | exact H _ _ _ rfl M (T.cast (by rw [chL_zero (fun j => f (7 * kd + j)) (n3i (by omega) (by omega)), List.append_nil]))
  | succ n ih =>
    intro i l E h M T hi0 hi1 hl H
    obtain ⟨n1, n2, n3⟩ := NK kd hkd.1 hkd.2
    have t1 := T.1
    have n2i := n2 i
    have n3i := n3 i
    refine WP.of (RUN.mono GQ _) (cuts := [2]) (n := 400) (v_X3_putName_2 _ _ _ _ _ _ _ ?_)
    refine ⟨Bx.k (Bx.sa L M.2.1 hq) 1 (by decide) rfl, ?_⟩
    refine S_X2_lengthOf_k (Bx.sa L M.2.1 hq) (by rw [hK1]; omega) (fun x5 e5 => ?_)
    subst e5
    refine ⟨ir (by omega) (by omega), ir (by omega) (by omega), fun c8 => ?_, fun c8 => ?_⟩
    · refine ⟨Bx.k (Bx.sa L M.2.1 hq) 1 (by decide) rfl, ?_⟩
      refine S_X2_letterOf_k (Bx.sa L M.2.1 hq) (by omega) (by omega) (by rw [show kd * 7 + i = 7 * kd + i by omega]; have := n2i (by omega) (by omega); omega) (fun x15 e15 => ?_)
      subst e15
      rw [show kd * 7 + i = 7 * kd + i by omega, (n2i (by omega) (by omega)).1]
      refine ⟨Bx.k M 0 (by decide) rfl, ?_⟩
      refine S_X3_putByte M T (by have := n2i (by omega) (by omega); omega) (by omega) (fun x18 h18 E18 e18 M18 T18 => ?_)
      subst e18
      refine ih _ _ _ _ M18 T18 (by omega) (by omega) (by rw [List.length_append]; show ((l.length + 1 : Nat) : Int) + n ≤ 399; omega) ?_
      refine fun x h' E' e M T => H x h' E' e M (T.cast ?_)
      rw [List.append_assoc, chL, if_neg (by omega)]; rfl
    · first
      | exact H _ _ _ rfl M (T.cast (by rw [chL, List.append_nil]))
      | exact H _ _ _ rfl M (T.cast (by rw [chL_zero (fun j => f (7 * kd + j)) (n3i (by omega) (by omega)), List.append_nil]))
theorem S_X3_putName {d b q : Nat} {h0 h : PH} {E EP : Nat → Int → Int} {l : List Int} {Q : Int → PH → Prop} {X : Nat → PH → Prop} {f : Int → Int} {K : Int} {kd : Int} (M : Ox b h0 h E) (T : TXO E l) (L : Px q h0 h0 EP) (hq : b + 2 ≤ q ∨ q + 10 ≤ b) (hK1 : EP 1 2 = K) (hK : 0 ≤ K ∧ K ≤ 8) (NK : NR (EP 2) (EP 3) f K) (hkd : 0 ≤ kd ∧ kd < K) (hl : (l.length : Int) ≤ 392) (H : ∀ (x : Int) h' E', x = 0 → Ox b h0 h' E' → TXO E' (l ++ chL (fun i => f (7 * kd + i)) 7 0) → Q x h') : RUN GQ (d + 2) m_X3_putName [pA b, pA (q + 1), pI kd] h Q X := by
  have t1 := T.1
  rw [e_X3_putName]
  refine WP.of (RUN.mono GQ _) (cuts := [2]) (n := 400) (v_X3_putName_0 _ _ _ _ _ _ _ ?_)
  refine L_X3_putName_2 L hq hK1 hK NK hkd (7) _ _ _ _ M T (by omega) (by have := NK kd hkd.1 hkd.2; omega) (by omega) ?_
  exact H
