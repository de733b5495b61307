/-! the model reads (written by wip/whole/tools/eng.py) -/
section VCS
variable {call : PC} {mc ms fr : Nat} {Q : Int → PH → Prop} {X : Nat → PH → Prop} {K : PK}
set_option maxRecDepth 100000 in
theorem v_X7_reads_0 (a0 : Nat) (i1 : Int) (z2 : Option PV) (h : PH) (c s : Nat) (H : hk h a0 = 8 ∧ ∀ h1, h1 = hsi h a0 20 i1 →
 hk h1 a0 = 8 ∧ ∀ h2, h2 = hsi h1 a0 21 0 →
 hk h2 a0 = 8 ∧ ∀ h3, h3 = hsi h2 a0 25 0 →
 hk h3 a0 = 8 ∧ ∀ h4, h4 = hsi h3 a0 26 ((-1)) →
 hk h4 a0 = 8 ∧ ∀ h5, h5 = hsi h4 a0 31 0 →
 hk h5 a0 = 8 ∧ ∀ h6, h6 = hsi h5 a0 32 0 →
 hk h6 a0 = 8 ∧ ∀ h7, h7 = hsi h6 a0 33 0 →
 hk h7 a0 = 8 ∧ ∀ h8, h8 = hsi h7 a0 34 0 →
 K 42 [some (pA a0), some (pI i1), some (pI 0)] [] h8 c s) : wpc k_X7_reads [] call mc ms fr Q X [42, 70, 159] K 400 (pto 0 k_X7_reads) [some (pA a0), some (pI i1), z2] [] h c s :=
  H
set_option maxRecDepth 100000 in
theorem v_X7_reads_42 (a0 : Nat) (i1 : Int) (i2 : Int) (h : PH) (c s : Nat) (H : InR i2 ∧ InR 48 ∧ (i2 < 48 →
 hk h a0 = 8 ∧ hk h (hr h a0 39) = 20 ∧ (0 ≤ i2 ∧ i2 < (hl h (hr h a0 39) : Int)) ∧ ∀ h1, h1 = hsi h (hr h a0 39) (Int.toNat i2) 0 →
 hk h1 a0 = 8 ∧ hk h1 (hr h1 a0 40) = 20 ∧ (0 ≤ i2 ∧ i2 < (hl h1 (hr h1 a0 40) : Int)) ∧ ∀ h2, h2 = hsi h1 (hr h1 a0 40) (Int.toNat i2) 0 →
 K 42 [some (pA a0), some (pI i1), some (pI (i2 + 1))] [] h2 c s) ∧
(48 ≤ i2 →
 K 70 [some (pA a0), some (pI i1), some (pI 0)] [] h c s)) : wpc k_X7_reads [] call mc ms fr Q X [42, 70, 159] K 400 (pto 42 k_X7_reads) [some (pA a0), some (pI i1), some (pI i2)] [] h c s :=
  H
set_option maxRecDepth 100000 in
theorem v_X7_reads_70 (a0 : Nat) (i1 : Int) (i2 : Int) (h : PH) (c s : Nat) (H : InR i2 ∧ InR 6 ∧ (i2 < 6 →
 hk h a0 = 8 ∧ hk h (hr h a0 38) = 20 ∧ (0 ≤ i2 ∧ i2 < (hl h (hr h a0 38) : Int)) ∧ ∀ h1, h1 = hsi h (hr h a0 38) (Int.toNat i2) 0 →
 K 70 [some (pA a0), some (pI i1), some (pI (i2 + 1))] [] h1 c s) ∧
(6 ≤ i2 →
 hk h a0 = 8 ∧ call m_X7_token [pA a0] h (fun _ h2 =>
 hk h2 a0 = 8 ∧ call m_X7_isWord [pA a0, pA 34] h2 (fun x3 h3 =>
 InR x3 ∧ (x3 = 0 →
 hk h3 a0 = 8 ∧ call m_X7_failsIf [pA a0, pI 1, pI 1] h3 (fun _ h4 =>
 hk h4 a0 = 8 ∧ call m_X7_goesOn [pA a0] h4 (fun _ h5 =>
 hk h5 a0 = 8 ∧ call m_X7_takes [pA a0, pI 1, pI 4] h5 (fun x6 h6 =>
 hk h6 a0 = 8 ∧ ∀ h7, h7 = hsi h6 a0 27 x6 →
 hk h7 a0 = 8 ∧ call m_X7_takes [pA a0, pI 0, pI 50] h7 (fun x8 h8 =>
 hk h8 a0 = 8 ∧ ∀ h9, h9 = hsi h8 a0 28 x8 →
 hk h9 a0 = 8 ∧ call m_X7_takes [pA a0, pI 1, pI 50] h9 (fun x10 h10 =>
 hk h10 a0 = 8 ∧ ∀ h11, h11 = hsi h10 a0 29 x10 →
 hk h11 a0 = 8 ∧ call m_X7_takes [pA a0, pI 1, pI 12] h11 (fun x12 h12 =>
 hk h12 a0 = 8 ∧ ∀ h13, h13 = hsi h12 a0 30 x12 →
 K 159 [some (pA a0), some (pI i1), some (pI i2)] [] h13 c s) X) X) X) X) X) X) ∧
(x3 ≠ 0 →
 hk h3 a0 = 8 ∧ call m_X7_failsIf [pA a0, pI 0, pI 1] h3 (fun _ h14 =>
 hk h14 a0 = 8 ∧ call m_X7_goesOn [pA a0] h14 (fun _ h15 =>
 hk h15 a0 = 8 ∧ call m_X7_takes [pA a0, pI 1, pI 4] h15 (fun x16 h16 =>
 hk h16 a0 = 8 ∧ ∀ h17, h17 = hsi h16 a0 27 x16 →
 hk h17 a0 = 8 ∧ call m_X7_takes [pA a0, pI 0, pI 50] h17 (fun x18 h18 =>
 hk h18 a0 = 8 ∧ ∀ h19, h19 = hsi h18 a0 28 x18 →
 hk h19 a0 = 8 ∧ call m_X7_takes [pA a0, pI 1, pI 50] h19 (fun x20 h20 =>
 hk h20 a0 = 8 ∧ ∀ h21, h21 = hsi h20 a0 29 x20 →
 hk h21 a0 = 8 ∧ call m_X7_takes [pA a0, pI 1, pI 12] h21 (fun x22 h22 =>
 hk h22 a0 = 8 ∧ ∀ h23, h23 = hsi h22 a0 30 x22 →
 K 159 [some (pA a0), some (pI i1), some (pI i2)] [] h23 c s) X) X) X) X) X) X)) X) X)) : wpc k_X7_reads [] call mc ms fr Q X [42, 70, 159] K 400 (pto 70 k_X7_reads) [some (pA a0), some (pI i1), some (pI i2)] [] h c s :=
  H
set_option maxRecDepth 100000 in
theorem v_X7_reads_159 (a0 : Nat) (i1 : Int) (i2 : Int) (h : PH) (c s : Nat) (H : hk h a0 = 8 ∧ InR (hi h a0 25) ∧ ((hi h a0 25) = 0 →
 hk h a0 = 8 ∧ InR (hi h a0 23) ∧ InR 3 ∧ ((hi h a0 23) = 3 →
 hk h a0 = 8 ∧ call m_X7_token [pA a0] h (fun _ h1 =>
 hk h1 a0 = 8 ∧ call m_X7_line [pA a0] h1 (fun _ h2 =>
 K 159 [some (pA a0), some (pI i1), some (pI i2)] [] h2 c s) X) X) ∧
((hi h a0 23) ≠ 3 →
 hk h a0 = 8 ∧ InR (hi h a0 23) ∧ ((hi h a0 23) = 0 →
 hk h a0 = 8 ∧ call m_X7_failsIf [pA a0, pI 0, pI 1] h (fun _ h3 =>
 Q 0 h3) X) ∧
((hi h a0 23) ≠ 0 →
 hk h a0 = 8 ∧ call m_X7_failsIf [pA a0, pI 1, pI 1] h (fun _ h4 =>
 Q 0 h4) X))) ∧
((hi h a0 25) ≠ 0 →
 hk h a0 = 8 ∧ InR (hi h a0 23) ∧ ((hi h a0 23) = 0 →
 hk h a0 = 8 ∧ call m_X7_failsIf [pA a0, pI 0, pI 1] h (fun _ h5 =>
 Q 0 h5) X) ∧
((hi h a0 23) ≠ 0 →
 hk h a0 = 8 ∧ call m_X7_failsIf [pA a0, pI 1, pI 1] h (fun _ h6 =>
 Q 0 h6) X))) : wpc k_X7_reads [] call mc ms fr Q X [42, 70, 159] K 400 (pto 159 k_X7_reads) [some (pA a0), some (pI i1), some (pI i2)] [] h c s :=
  H
end VCS
theorem L_X7_reads_159 {d b : Nat} {h0 : PH} {s : Int → Int} {t : Int} {Q : Int → PH → Prop} {X : Nat → PH → Prop} {len : Int} {k : Int} (hW0 : WRD h0) (hb : 35 ≤ b) : ∀ (n : Nat) (D : Nat → Int → Int) (h : PH), (Mt b h0 h D s t) → (PR D) → (RI D) → (D 0 25 = 0 → D 0 20 < D 0 21 + n) → (∀ (x : Int) h', x = 0 → Mt b h0 h' (rdZ (rdl n D)) s t → Q x h') → WP k_X7_reads [] (RUN GQ (d + 11)) 0 0 (d + 12) Q X 159 [some (pA b), some (pI len), some (pI k)] [] h 0 0 := by
  intro n
  induction n with
  | zero =>
    intro D h M P J hn0 H
    have Pw := P.w
    have P1 := P.1
    have P2 := P.2.1
    have P3 := P.2.2.1
    refine WP.of (RUN.mono GQ _) (cuts := [42, 70, 159]) (n := 400) (v_X7_reads_159 _ _ _ _ _ _ ?_)
    refine ⟨M.k0, ?_⟩
    try rw [M.f25]
    refine ⟨ir (by omega) (by omega), fun c163 => ?_, fun c163 => ?_⟩
    · exfalso; omega
    · refine ⟨M.k0, ?_⟩
      try rw [M.f23]
      refine ⟨ir (by omega) (by omega), fun c190 => ?_, fun c190 => ?_⟩
      · refine ⟨M.k0, ?_⟩
        refine S_X7_failsIf M (by omega) (by exact P.w) (fun x199 h199 e199 M199 => ?_)
        subst e199
        first
        | (exfalso; omega)
        | (refine H _ _ rfl (M199.castD ?_)
           first
           | rw [rdl, if_neg (by omega)]
           | rw [rdl]
           unfold rdZ fiD
           (repeat' split) <;> first | rfl | (exfalso; omega))
      · refine ⟨M.k0, ?_⟩
        refine S_X7_failsIf M (by omega) (by exact P.w) (fun x199 h199 e199 M199 => ?_)
        subst e199
        first
        | (exfalso; omega)
        | (refine H _ _ rfl (M199.castD ?_)
           first
           | rw [rdl, if_neg (by omega)]
           | rw [rdl]
           unfold rdZ fiD
           (repeat' split) <;> first | rfl | (exfalso; omega))
  | succ n ih =>
    intro D h M P J hn0 H
    have Pw := P.w
    have P1 := P.1
    have P2 := P.2.1
    have P3 := P.2.2.1
    refine WP.of (RUN.mono GQ _) (cuts := [42, 70, 159]) (n := 400) (v_X7_reads_159 _ _ _ _ _ _ ?_)
    refine ⟨M.k0, ?_⟩
    try rw [M.f25]
    refine ⟨ir (by omega) (by omega), fun c163 => ?_, fun c163 => ?_⟩
    · refine ⟨M.k0, ?_⟩
      try rw [M.f23]
      refine ⟨ir (by omega) (by omega), ir (by omega) (by omega), fun c171 => ?_, fun c171 => ?_⟩
      · refine ⟨M.k0, ?_⟩
        refine S_X7_token M (by exact P.L) (by exact P.n) (by exact P.B) (fun x175 h175 e175 M175 => ?_)
        subst e175
        obtain ⟨T, hT⟩ : ∃ Z, Z = tokD D := ⟨_, rfl⟩
        have MT := M175.castD (D' := T) (by rw [hT])
        have PT : PR T := by rw [hT]; exact P.tok
        have JT : RI T := by rw [hT]; exact J.st (ST.tok P)
        refine ⟨MT.k0, ?_⟩
        refine S_X7_line MT PT (by exact JT) (by exact hW0) (by exact hb) (fun x179 h179 e179 M179 => ?_)
        subst e179
        refine ih _ _ M179 (li_all PT JT).2.1 (li_all PT JT).1 (by intro z; rw [hT] at z ⊢; have a1 := li_adv P J z; have a2 := li_20 (ST.tok P).P; rw [tok_20] at a2; have := hn0 c163; omega) ?_
        rw [rdl, if_pos ⟨c163, c171⟩, ← hT] at H
        exact H
      · refine ⟨M.k0, ?_⟩
        try rw [M.f23]
        refine ⟨ir (by omega) (by omega), fun c190 => ?_, fun c190 => ?_⟩
        · refine ⟨M.k0, ?_⟩
          refine S_X7_failsIf M (by omega) (by exact P.w) (fun x199 h199 e199 M199 => ?_)
          subst e199
          first
          | (exfalso; omega)
          | (refine H _ _ rfl (M199.castD ?_)
             first
             | rw [rdl, if_neg (by omega)]
             | rw [rdl]
             unfold rdZ fiD
             (repeat' split) <;> first | rfl | (exfalso; omega))
        · refine ⟨M.k0, ?_⟩
          refine S_X7_failsIf M (by omega) (by exact P.w) (fun x199 h199 e199 M199 => ?_)
          subst e199
          first
          | (exfalso; omega)
          | (refine H _ _ rfl (M199.castD ?_)
             first
             | rw [rdl, if_neg (by omega)]
             | rw [rdl]
             unfold rdZ fiD
             (repeat' split) <;> first | rfl | (exfalso; omega))
    · refine ⟨M.k0, ?_⟩
      try rw [M.f23]
      refine ⟨ir (by omega) (by omega), fun c190 => ?_, fun c190 => ?_⟩
      · refine ⟨M.k0, ?_⟩
        refine S_X7_failsIf M (by omega) (by exact P.w) (fun x199 h199 e199 M199 => ?_)
        subst e199
        first
        | (exfalso; omega)
        | (refine H _ _ rfl (M199.castD ?_)
           first
           | rw [rdl, if_neg (by omega)]
           | rw [rdl]
           unfold rdZ fiD
           (repeat' split) <;> first | rfl | (exfalso; omega))
      · refine ⟨M.k0, ?_⟩
        refine S_X7_failsIf M (by omega) (by exact P.w) (fun x199 h199 e199 M199 => ?_)
        subst e199
        first
        | (exfalso; omega)
        | (refine H _ _ rfl (M199.castD ?_)
           first
           | rw [rdl, if_neg (by omega)]
           | rw [rdl]
           unfold rdZ fiD
           (repeat' split) <;> first | rfl | (exfalso; omega))
theorem L_X7_reads_70 {d b : Nat} {h0 : PH} {s : Int → Int} {t : Int} {Q : Int → PH → Prop} {X : Nat → PH → Prop} {len : Int} (hW0 : WRD h0) (hb : 35 ≤ b) : ∀ (n : Nat) (k : Int) (D : Nat → Int → Int) (h : PH), (Mt b h0 h D s t) → (RZ D 48 k) → (0 ≤ k ∧ k + n = 6) → (∀ (x : Int) h', x = 0 → Mt b h0 h' (rdF (rdm n k D)) s t → Q x h') → WP k_X7_reads [] (RUN GQ (d + 11)) 0 0 (d + 12) Q X 70 [some (pA b), some (pI len), some (pI k)] [] h 0 0 := by
  intro n
  induction n with
  | zero =>
    intro k D h M Z hk0 H
    refine WP.of (RUN.mono GQ _) (cuts := [42, 70, 159]) (n := 400) (v_X7_reads_70 _ _ _ _ _ _ ?_)
    refine ⟨ir (by omega) (by omega), ir (by omega) (by omega), fun c73 => ?_, fun c73 => ?_⟩
    · exfalso; omega
    · refine ⟨M.k0, ?_⟩
      refine S_X7_token M (by exact Z.1) (by exact Z.h21) (by exact Z.B) (fun x90 h90 e90 M90 => ?_)
      subst e90
      obtain ⟨A, hA⟩ : ∃ Z, Z = tokD D := ⟨_, rfl⟩
      have MA := M90.castD (D' := A) (by rw [hA])
      have ZZ : RZ D 48 6 := (show k = 6 by omega) ▸ Z
      have PA : PR A := by rw [hA]; exact ZZ.P
      have JA : RI A := by rw [hA]; exact ZZ.I
      have PAw := PA.w
      have zw := wdv_01 A (wdt 34)
      refine ⟨MA.k0, ?_⟩
      refine S_X7_isWord MA PA ((hW0.of MA.2.1 hb) 34 (by decide) (by decide)) (by decide) (fun x97 e97 => ?_)
      subst e97
      refine ⟨ir (by omega) (by omega), fun c100 => ?_, fun c100 => ?_⟩
      · refine ⟨MA.k0, ?_⟩
        refine S_X7_failsIf MA (by omega) (by exact PAw) (fun x109 h109 e109 M109 => ?_)
        subst e109
        obtain ⟨B, hB⟩ : ∃ Z, Z = (if wdv A (wdt 34) = 1 then A else flD A 1) := ⟨_, rfl⟩
        have MB := M109.castD (D' := B) (by rw [hB]; unfold fiD; (repeat' split) <;> first | rfl | (exfalso; omega))
        have PB : PR B := by rw [hB]; split <;> first | exact PA | exact PA.fl (by decide)
        have JB : RI B := by rw [hB]; split <;> first | exact JA | exact JA.st ((ST.refl PA).fl (by decide))
        have PBw := PB.w
        refine ⟨MB.k0, ?_⟩
        refine S_X7_goesOn MB PB (fun x113 h113 e113 M113 => ?_)
        subst e113
        obtain ⟨C, hC⟩ : ∃ Z, Z = rdC A := ⟨_, rfl⟩
        have MC := M113.castD (D' := C) (by rw [hC]; unfold rdC; rw [← hB])
        have PC : PR C := by rw [hC]; unfold rdC; rw [← hB]; exact PB.go
        have JC : RI C := by rw [hC]; unfold rdC; rw [← hB]; exact JB.st (ST.refl PB).go
        refine ⟨MC.k0, ?_⟩
        refine S_X7_takes MC PC (by omega) (fun x120 h120 e120 M120 => ?_)
        subst e120
        refine M120.p27 (fun h123 M123 => ?_)
        obtain ⟨R1, hR1⟩ : ∃ Z, Z = rd1 C := ⟨_, rfl⟩
        have MR1 := M123.castD (D' := R1) (by rw [hR1]; rfl)
        have PR1 : PR R1 := by rw [hR1]; exact PR_rd _ PC (by decide)
        have JR1 : RI R1 := by rw [hR1]; exact RI_rd _ PC JC (by decide)
        refine ⟨MR1.k0, ?_⟩
        refine S_X7_takes MR1 PR1 (by omega) (fun x131 h131 e131 M131 => ?_)
        subst e131
        refine M131.p28 (fun h134 M134 => ?_)
        obtain ⟨R2, hR2⟩ : ∃ Z, Z = rd2 R1 := ⟨_, rfl⟩
        have MR2 := M134.castD (D' := R2) (by rw [hR2]; rfl)
        have PR2 : PR R2 := by rw [hR2]; exact PR_rd _ PR1 (by decide)
        have JR2 : RI R2 := by rw [hR2]; exact RI_rd _ PR1 JR1 (by decide)
        refine ⟨MR2.k0, ?_⟩
        refine S_X7_takes MR2 PR2 (by omega) (fun x142 h142 e142 M142 => ?_)
        subst e142
        refine M142.p29 (fun h145 M145 => ?_)
        obtain ⟨R3, hR3⟩ : ∃ Z, Z = rd3 R2 := ⟨_, rfl⟩
        have MR3 := M145.castD (D' := R3) (by rw [hR3]; rfl)
        have PR3 : PR R3 := by rw [hR3]; exact PR_rd _ PR2 (by decide)
        have JR3 : RI R3 := by rw [hR3]; exact RI_rd _ PR2 JR2 (by decide)
        refine ⟨MR3.k0, ?_⟩
        refine S_X7_takes MR3 PR3 (by omega) (fun x153 h153 e153 M153 => ?_)
        subst e153
        refine M153.p30 (fun h156 M156 => ?_)
        obtain ⟨R4, hR4⟩ : ∃ Z, Z = rd4 R3 := ⟨_, rfl⟩
        have MR4 := M156.castD (D' := R4) (by rw [hR4]; rfl)
        have PR4 : PR R4 := by rw [hR4]; exact PR_rd _ PR3 (by decide)
        have JR4 : RI R4 := by rw [hR4]; exact RI_rd _ PR3 JR3 (by decide)
        refine L_X7_reads_159 hW0 hb (702) _ _ MR4 PR4 JR4 (by intro _; have a1 := PR4.1; have a2 := PR4.2.1; omega) ?_
        refine fun x h' e M => H x h' e (M.castD ?_)
        try rw [show rdm 0 k D = D from rfl]
        unfold rdF
        rw [← hA, ← hC, ← hR1, ← hR2, ← hR3, ← hR4]
      · refine ⟨MA.k0, ?_⟩
        refine S_X7_failsIf MA (by omega) (by exact PAw) (fun x109 h109 e109 M109 => ?_)
        subst e109
        obtain ⟨B, hB⟩ : ∃ Z, Z = (if wdv A (wdt 34) = 1 then A else flD A 1) := ⟨_, rfl⟩
        have MB := M109.castD (D' := B) (by rw [hB]; unfold fiD; (repeat' split) <;> first | rfl | (exfalso; omega))
        have PB : PR B := by rw [hB]; split <;> first | exact PA | exact PA.fl (by decide)
        have JB : RI B := by rw [hB]; split <;> first | exact JA | exact JA.st ((ST.refl PA).fl (by decide))
        have PBw := PB.w
        refine ⟨MB.k0, ?_⟩
        refine S_X7_goesOn MB PB (fun x113 h113 e113 M113 => ?_)
        subst e113
        obtain ⟨C, hC⟩ : ∃ Z, Z = rdC A := ⟨_, rfl⟩
        have MC := M113.castD (D' := C) (by rw [hC]; unfold rdC; rw [← hB])
        have PC : PR C := by rw [hC]; unfold rdC; rw [← hB]; exact PB.go
        have JC : RI C := by rw [hC]; unfold rdC; rw [← hB]; exact JB.st (ST.refl PB).go
        refine ⟨MC.k0, ?_⟩
        refine S_X7_takes MC PC (by omega) (fun x120 h120 e120 M120 => ?_)
        subst e120
        refine M120.p27 (fun h123 M123 => ?_)
        obtain ⟨R1, hR1⟩ : ∃ Z, Z = rd1 C := ⟨_, rfl⟩
        have MR1 := M123.castD (D' := R1) (by rw [hR1]; rfl)
        have PR1 : PR R1 := by rw [hR1]; exact PR_rd _ PC (by decide)
        have JR1 : RI R1 := by rw [hR1]; exact RI_rd _ PC JC (by decide)
        refine ⟨MR1.k0, ?_⟩
        refine S_X7_takes MR1 PR1 (by omega) (fun x131 h131 e131 M131 => ?_)
        subst e131
        refine M131.p28 (fun h134 M134 => ?_)
        obtain ⟨R2, hR2⟩ : ∃ Z, Z = rd2 R1 := ⟨_, rfl⟩
        have MR2 := M134.castD (D' := R2) (by rw [hR2]; rfl)
        have PR2 : PR R2 := by rw [hR2]; exact PR_rd _ PR1 (by decide)
        have JR2 : RI R2 := by rw [hR2]; exact RI_rd _ PR1 JR1 (by decide)
        refine ⟨MR2.k0, ?_⟩
        refine S_X7_takes MR2 PR2 (by omega) (fun x142 h142 e142 M142 => ?_)
        subst e142
        refine M142.p29 (fun h145 M145 => ?_)
        obtain ⟨R3, hR3⟩ : ∃ Z, Z = rd3 R2 := ⟨_, rfl⟩
        have MR3 := M145.castD (D' := R3) (by rw [hR3]; rfl)
        have PR3 : PR R3 := by rw [hR3]; exact PR_rd _ PR2 (by decide)
        have JR3 : RI R3 := by rw [hR3]; exact RI_rd _ PR2 JR2 (by decide)
        refine ⟨MR3.k0, ?_⟩
        refine S_X7_takes MR3 PR3 (by omega) (fun x153 h153 e153 M153 => ?_)
        subst e153
        refine M153.p30 (fun h156 M156 => ?_)
        obtain ⟨R4, hR4⟩ : ∃ Z, Z = rd4 R3 := ⟨_, rfl⟩
        have MR4 := M156.castD (D' := R4) (by rw [hR4]; rfl)
        have PR4 : PR R4 := by rw [hR4]; exact PR_rd _ PR3 (by decide)
        have JR4 : RI R4 := by rw [hR4]; exact RI_rd _ PR3 JR3 (by decide)
        refine L_X7_reads_159 hW0 hb (702) _ _ MR4 PR4 JR4 (by intro _; have a1 := PR4.1; have a2 := PR4.2.1; omega) ?_
        refine fun x h' e M => H x h' e (M.castD ?_)
        try rw [show rdm 0 k D = D from rfl]
        unfold rdF
        rw [← hA, ← hC, ← hR1, ← hR2, ← hR3, ← hR4]
  | succ n ih =>
    intro k D h M Z hk0 H
    refine WP.of (RUN.mono GQ _) (cuts := [42, 70, 159]) (n := 400) (v_X7_reads_70 _ _ _ _ _ _ ?_)
    refine ⟨ir (by omega) (by omega), ir (by omega) (by omega), fun c73 => ?_, fun c73 => ?_⟩
    · refine ⟨M.k0, ?_⟩
      try rw [M.r38]
      refine M.as14 (by omega) (by omega) (fun h82 M82 => ?_)
      refine ih _ _ _ M82 Z.nc (by omega) ?_
      exact H
    · exfalso; omega
theorem L_X7_reads_42 {d b : Nat} {h0 : PH} {s : Int → Int} {t : Int} {Q : Int → PH → Prop} {X : Nat → PH → Prop} {len : Int} (hW0 : WRD h0) (hb : 35 ≤ b) : ∀ (n : Nat) (k : Int) (D : Nat → Int → Int) (h : PH), (Mt b h0 h D s t) → (RZ D k 0) → (0 ≤ k ∧ k + n = 48) → (∀ (x : Int) h', x = 0 → Mt b h0 h' (rdF (rdm 6 0 (rdz n k D))) s t → Q x h') → WP k_X7_reads [] (RUN GQ (d + 11)) 0 0 (d + 12) Q X 42 [some (pA b), some (pI len), some (pI k)] [] h 0 0 := by
  intro n
  induction n with
  | zero =>
    intro k D h M Z hk0 H
    refine WP.of (RUN.mono GQ _) (cuts := [42, 70, 159]) (n := 400) (v_X7_reads_42 _ _ _ _ _ _ ?_)
    refine ⟨ir (by omega) (by omega), ir (by omega) (by omega), fun c45 => ?_, fun c45 => ?_⟩
    · exfalso; omega
    · refine L_X7_reads_70 hW0 hb (6) _ _ _ M (show RZ D 48 0 from (show k = 48 by omega) ▸ Z) (by omega) ?_
      exact H
  | succ n ih =>
    intro k D h M Z hk0 H
    refine WP.of (RUN.mono GQ _) (cuts := [42, 70, 159]) (n := 400) (v_X7_reads_42 _ _ _ _ _ _ ?_)
    refine ⟨ir (by omega) (by omega), ir (by omega) (by omega), fun c45 => ?_, fun c45 => ?_⟩
    · refine ⟨M.k0, ?_⟩
      try rw [M.r39]
      refine M.as15 (by omega) (by omega) (fun h54 M54 => ?_)
      refine ⟨M54.k0, ?_⟩
      try rw [M54.r40]
      refine M54.as16 (by omega) (by omega) (fun h61 M61 => ?_)
      refine ih _ _ _ M61 Z.na (by omega) ?_
      exact H
    · exfalso; omega
theorem S_X7_reads {d b : Nat} {h0 h : PH} {D : Nat → Int → Int} {s : Int → Int} {t : Int} {Q : Int → PH → Prop} {X : Nat → PH → Prop} {len : Int} (M : Mt b h0 h D s t) (hn : 0 ≤ len ∧ len ≤ 700) (hB : BY D) (g1 : NB (D 11)) (g2 : NB (D 12)) (hk : RIk D) (hW0 : WRD h0) (hb : 35 ≤ b) (H : ∀ (x : Int) h', x = 0 → Mt b h0 h' (rdD D len) s t → Q x h') : RUN GQ (d + 12) m_X7_reads [pA b, pI len] h Q X := by
  rw [e_X7_reads]
  refine WP.of (RUN.mono GQ _) (cuts := [42, 70, 159]) (n := 400) (v_X7_reads_0 _ _ _ _ _ _ ?_)
  refine M.p20 (fun h2 M2 => ?_)
  refine M2.p21 (fun h7 M7 => ?_)
  refine M7.p25 (fun h12 M12 => ?_)
  refine M12.p26 (fun h17 M17 => ?_)
  refine M17.p31 (fun h22 M22 => ?_)
  refine M22.p32 (fun h27 M27 => ?_)
  refine M27.p33 (fun h32 M32 => ?_)
  refine M32.p34 (fun h37 M37 => ?_)
  refine L_X7_reads_42 hW0 hb (48) _ _ _ M37 (RZ.start hn hB g1 g2 hk) (by omega) ?_
  exact H
