/-! the model's ticks (written by wip/whole/tools/eng.py) -/
section VCS
variable {call : PC} {mc ms fr : Nat} {Q : Int → PH → Prop} {X : Nat → PH → Prop} {K : PK}
set_option maxRecDepth 100000 in
theorem v_X7_ticksOnce_0 (a0 : Nat) (z1 : Option PV) (h : PH) (c s : Nat) (H : hk h a0 = 8 ∧ (hk h (hr h a0 11) = 20 ∨ hk h (hr h a0 11) = 26) ∧ (0 ≤ (0 : Int) ∧ (0 : Int) < (hl h (hr h a0 11) : Int)) ∧ hk h (hr h a0 11) = 20 ∧ (0 ≤ (0 : Int) ∧ (0 : Int) < (hl h (hr h a0 11) : Int)) ∧ ∀ h1, h1 = hsi h (hr h a0 11) (Int.toNat (0 : Int)) ((hi h (hr h a0 11) (Int.toNat (0 : Int))) + 1) →
 K 12 [some (pA a0), some (pI 0)] [] h1 c s) : wpc k_X7_ticksOnce [] call mc ms fr Q X [12, 67] K 400 (pto 0 k_X7_ticksOnce) [some (pA a0), z1] [] h c s :=
  H
set_option maxRecDepth 100000 in
theorem v_X7_ticksOnce_12 (a0 : Nat) (i1 : Int) (h : PH) (c s : Nat) (H : InR i1 ∧ InR 48 ∧ (i1 < 48 →
 hk h a0 = 8 ∧ (hk h (hr h a0 11) = 20 ∨ hk h (hr h a0 11) = 26) ∧ (0 ≤ (0 : Int) ∧ (0 : Int) < (hl h (hr h a0 11) : Int)) ∧ hk h a0 = 8 ∧ (hk h (hr h a0 11) = 20 ∨ hk h (hr h a0 11) = 26) ∧ (0 ≤ (12 : Int) ∧ (12 : Int) < (hl h (hr h a0 11) : Int)) ∧ InR (hi h (hr h a0 11) (Int.toNat (0 : Int))) ∧ InR (hi h (hr h a0 11) (Int.toNat (12 : Int))) ∧ (hi h (hr h a0 11) (Int.toNat (12 : Int))) ≠ 0 ∧ InR (Int.tmod (hi h (hr h a0 11) (Int.toNat (0 : Int))) (hi h (hr h a0 11) (Int.toNat (12 : Int)))) ∧ ((Int.tmod (hi h (hr h a0 11) (Int.toNat (0 : Int))) (hi h (hr h a0 11) (Int.toNat (12 : Int)))) = 0 →
 hk h a0 = 8 ∧ hk h a0 = 8 ∧ (hk h (hr h a0 11) = 20 ∨ hk h (hr h a0 11) = 26) ∧ (0 ≤ (37 + i1) ∧ (37 + i1) < (hl h (hr h a0 11) : Int)) ∧ InR 0 ∧ InR ((hi h (hr h a0 11) (Int.toNat ((37 + i1)))) - 1) ∧ hk h (hr h a0 11) = 20 ∧ (0 ≤ (37 + i1) ∧ (37 + i1) < (hl h (hr h a0 11) : Int)) ∧ ∀ h1, h1 = hsi h (hr h a0 11) (Int.toNat ((37 + i1))) (if 0 ≤ ((hi h (hr h a0 11) (Int.toNat ((37 + i1)))) - 1) then ((hi h (hr h a0 11) (Int.toNat ((37 + i1)))) - 1) else 0) →
 K 12 [some (pA a0), some (pI (i1 + 1))] [] h1 c s) ∧
((Int.tmod (hi h (hr h a0 11) (Int.toNat (0 : Int))) (hi h (hr h a0 11) (Int.toNat (12 : Int)))) ≠ 0 →
 K 67 [some (pA a0), some (pI 0)] [] h c s)) ∧
(48 ≤ i1 →
 K 67 [some (pA a0), some (pI 0)] [] h c s)) : wpc k_X7_ticksOnce [] call mc ms fr Q X [12, 67] K 400 (pto 12 k_X7_ticksOnce) [some (pA a0), some (pI i1)] [] h c s :=
  H
set_option maxRecDepth 100000 in
theorem v_X7_ticksOnce_67 (a0 : Nat) (i1 : Int) (h : PH) (c s : Nat) (H : hk h a0 = 8 ∧ InR i1 ∧ InR (hi h a0 4) ∧ (i1 < (hi h a0 4) →
 hk h a0 = 8 ∧ call m_X7_ages [pA a0, pI i1] h (fun _ h1 =>
 hk h1 a0 = 8 ∧ call m_X7_begins [pA a0, pI i1] h1 (fun _ h2 =>
 hk h2 a0 = 8 ∧ call m_X7_works [pA a0, pI i1] h2 (fun _ h3 =>
 K 67 [some (pA a0), some (pI (i1 + 1))] [] h3 c s) X) X) X) ∧
((hi h a0 4) ≤ i1 →
 Q 0 h)) : wpc k_X7_ticksOnce [] call mc ms fr Q X [12, 67] K 400 (pto 67 k_X7_ticksOnce) [some (pA a0), some (pI i1)] [] h c s :=
  H
set_option maxRecDepth 100000 in
theorem v_X7_goesTicks_0 (a0 : Nat) (i1 : Int) (z2 : Option PV) (h : PH) (c s : Nat) (H : K 2 [some (pA a0), some (pI i1), some (pI 0)] [] h c s) : wpc k_X7_goesTicks [] call mc ms fr Q X [2] K 400 (pto 0 k_X7_goesTicks) [some (pA a0), some (pI i1), z2] [] h c s :=
  H
set_option maxRecDepth 100000 in
theorem v_X7_goesTicks_2 (a0 : Nat) (i1 : Int) (i2 : Int) (h : PH) (c s : Nat) (H : InR i2 ∧ InR i1 ∧ (i2 < i1 →
 hk h a0 = 8 ∧ call m_X7_ticksOnce [pA a0] h (fun _ h1 =>
 K 2 [some (pA a0), some (pI i1), some (pI (i2 + 1))] [] h1 c s) X) ∧
(i1 ≤ i2 →
 Q 0 h)) : wpc k_X7_goesTicks [] call mc ms fr Q X [2] K 400 (pto 2 k_X7_goesTicks) [some (pA a0), some (pI i1), some (pI i2)] [] h c s :=
  H
end VCS
theorem L_X7_ticksOnce_67 {d b : Nat} {h0 : PH} {D : Nat → Int → Int} {Q : Int → PH → Prop} {X : Nat → PH → Prop}  (V : PIv D) : ∀ (n : Nat) (p : Int) (s : Int → Int) (h : PH) (N : Int), (Md b h0 h D s) → (HI (D 0 3) (D 0 4) (D 0 2) N s) → (0 ≤ p) → (p + n = D 0 4) → (N + 80 * n ≤ 1998990000) → (∀ (x : Int) h', x = 0 → Md b h0 h' D (e_prl D n p s) → Q x h') → WP k_X7_ticksOnce [] (RUN GQ (d + 7)) 0 0 (d + 8) Q X 67 [some (pA b), some (pI p)] [] h 0 0 := by
  intro n
  induction n with
  | zero =>
    intro p s h N M I hk hn hN H
    obtain ⟨v2, v3, v4, vh⟩ := id V
    refine WP.of (RUN.mono GQ _) (cuts := [12, 67]) (n := 400) (v_X7_ticksOnce_67 _ _ _ _ _ ?_)
    refine ⟨M.k0, ?_⟩
    try rw [M.f4]
    refine ⟨ir (by omega) (by omega), ir (by omega) (by omega), fun c72 => ?_, fun c72 => ?_⟩
    · exfalso; omega
    · exact H _ _ rfl M
  | succ n ih =>
    intro p s h N M I hk hn hN H
    obtain ⟨v2, v3, v4, vh⟩ := id V
    refine WP.of (RUN.mono GQ _) (cuts := [12, 67]) (n := 400) (v_X7_ticksOnce_67 _ _ _ _ _ ?_)
    refine ⟨M.k0, ?_⟩
    try rw [M.f4]
    refine ⟨ir (by omega) (by omega), ir (by omega) (by omega), fun c72 => ?_, fun c72 => ?_⟩
    · refine ⟨M.k0, ?_⟩
      refine S_X7_ages M I V (by omega) (by omega) (fun x77 h77 e77 M77 => ?_)
      subst e77
      have I77 := ages_HI (p := p) I v3 v4.1 (by omega)
      refine ⟨M77.k0, ?_⟩
      refine S_X7_begins M77 I77 V (by omega) (by omega) (fun x82 h82 e82 M82 => ?_)
      subst e82
      have I82 := bg_HI (p := p) I77 V rfl v4 (by omega)
      refine ⟨M82.k0, ?_⟩
      refine S_X7_works M82 I82 V (by omega) (by omega) (fun x87 h87 e87 M87 => ?_)
      subst e87
      have I87 := wk_HI (p := p) I82 V rfl rfl (by omega)
      refine ih _ _ _ _ M87 I87 (by omega) (by omega) (by omega) ?_
      exact H
    · exfalso; omega
theorem L_X7_ticksOnce_12 {d b : Nat} {h0 : PH} {D : Nat → Int → Int} {Q : Int → PH → Prop} {X : Nat → PH → Prop} {N : Int}  (V : PIv D) : ∀ (n : Nat) (k : Int) (s : Int → Int) (h : PH), (Md b h0 h D s) → (HI (D 0 3) (D 0 4) (D 0 2) N s) → (0 ≤ k) → (k + n = 48) → (N ≤ 1998900001) → (∀ h', Md b h0 h' D (if Int.tmod (s 0) (s 12) = 0 then e_rsl n k s else s) → HI (D 0 3) (D 0 4) (D 0 2) N (if Int.tmod (s 0) (s 12) = 0 then e_rsl n k s else s) → WP k_X7_ticksOnce [] (RUN GQ (d + 7)) 0 0 (d + 8) Q X 67 [some (pA b), some (pI 0)] [] h' 0 0) → WP k_X7_ticksOnce [] (RUN GQ (d + 7)) 0 0 (d + 8) Q X 12 [some (pA b), some (pI k)] [] h 0 0 := by
  intro n
  induction n with
  | zero =>
    intro k s h M I hk hn hN H
    obtain ⟨v2, v3, v4, vh⟩ := id V
    have e0 := I.e0
    have qo := I.ho
    unfold HIo at qo
    refine WP.of (RUN.mono GQ _) (cuts := [12, 67]) (n := 400) (v_X7_ticksOnce_12 _ _ _ _ _ ?_)
    refine ⟨ir (by omega) (by omega), ir (by omega) (by omega), fun c15 => ?_, fun c15 => ?_⟩
    · exfalso; omega
    · first | (refine H _ (M.cast ?_) ?_; · split <;> rfl
               · split <;> exact I) | exact H _ (M.cast (if_neg c32)) (by rw [if_neg c32]; exact I)
  | succ n ih =>
    intro k s h M I hk hn hN H
    obtain ⟨v2, v3, v4, vh⟩ := id V
    have e0 := I.e0
    have qo := I.ho
    unfold HIo at qo
    have tm := tmN (x := s 0) (y := s 12) (by omega) (by omega)
    have ht := I.td (p := k / 8) (k := k % 8) ⟨by omega, by omega⟩ ⟨by omega, by omega⟩
    unfold td at ht
    rw [show 37 + 8 * (k / 8) + k % 8 = 37 + k by omega] at ht
    refine WP.of (RUN.mono GQ _) (cuts := [12, 67]) (n := 400) (v_X7_ticksOnce_12 _ _ _ _ _ ?_)
    refine ⟨ir (by omega) (by omega), ir (by omega) (by omega), fun c15 => ?_, fun c15 => ?_⟩
    · refine ⟨M.k0, ?_⟩
      try rw [M.r11]
      refine M.ld6 (by omega) (by omega) (fun er => ?_)
      try rw [er]
      clear er
      refine ⟨M.k0, ?_⟩
      try rw [M.r11]
      refine M.ld6 (by omega) (by omega) (fun er => ?_)
      try rw [er]
      clear er
      refine ⟨ir (by omega) (by omega), ir (by omega) (by omega), (by omega), ?_⟩
      refine ⟨ir (by omega) (by omega), fun c32 => ?_, fun c32 => ?_⟩
      · refine ⟨M.k0, ?_⟩
        try rw [M.r11]
        refine ⟨M.k0, ?_⟩
        try rw [M.r11]
        refine M.ld6 (by omega) (by omega) (fun er => ?_)
        try rw [er]
        clear er
        refine ⟨ir (by omega) (by omega), ir (by omega) (by omega), ?_⟩
        refine M.as6 (by omega) (by omega) (fun h58 M58 => ?_)
        have I59 : HI (D 0 3) (D 0 4) (D 0 2) N (ups s (37 + k) (if 0 ≤ s (37 + k) - 1 then s (37 + k) - 1 else 0)) := tir_HI I v3.1 v4.1 ⟨by omega, by omega⟩ (by split <;> omega) (fun h => by rw [h]; rfl)
        have w0 : ups s (37 + k) (if 0 ≤ s (37 + k) - 1 then s (37 + k) - 1 else 0) 0 = s 0 := ups_ne (by omega)
        have w12 : ups s (37 + k) (if 0 ≤ s (37 + k) - 1 then s (37 + k) - 1 else 0) 12 = s 12 := ups_ne (by omega)
        refine ih _ _ _ M58 I59 (by omega) (by omega) (by omega) ?_
        rw [if_pos c32] at H
        rw [w0, w12, if_pos c32]
        exact H
      · first | (refine H _ (M.cast ?_) ?_; · split <;> rfl
                 · split <;> exact I) | exact H _ (M.cast (if_neg c32)) (by rw [if_neg c32]; exact I)
    · exfalso; omega
theorem S_X7_ticksOnce {d b : Nat} {h0 h : PH} {D : Nat → Int → Int} {s : Int → Int} {Q : Int → PH → Prop} {X : Nat → PH → Prop} {N : Int}  (M : Md b h0 h D s) (I : HI (D 0 3) (D 0 4) (D 0 2) N s) (V : PIv D) (hN : N ≤ 1998900000)  (H : ∀ (x : Int) h', x = (0) → Md b h0 h' D (e_tick D s) → Q x h') : RUN GQ (d + 8) m_X7_ticksOnce [pA b] h Q X := by
  obtain ⟨v2, v3, v4, vh⟩ := id V
  have e0 := I.e0
  have qo := I.ho
  unfold HIo at qo
  rw [e_X7_ticksOnce]
  refine WP.of (RUN.mono GQ _) (cuts := [12, 67]) (n := 400) (v_X7_ticksOnce_0 _ _ _ _ _ ?_)
  refine ⟨M.k0, ?_⟩
  try rw [M.r11]
  refine M.ld6 (by omega) (by omega) (fun er => ?_)
  try rw [er]
  clear er
  refine M.as6 (by omega) (by omega) (fun h9 M9 => ?_)
  have I1 := time_HI I v3.1 v4.1
  have u12 : ups s 0 (s 0 + 1) 12 = s 12 := ups_ne (by omega)
  have u0 : ups s 0 (s 0 + 1) 0 = s 0 + 1 := ups_eq _ _ _
  refine L_X7_ticksOnce_12 V (48) _ _ _ M9 I1 (by omega) (by omega) (by omega) ?_
  intro h' M I
  refine L_X7_ticksOnce_67 V (D 0 4).toNat _ _ _ _ M I (by omega) (by omega) (by omega) ?_
  exact H
theorem L_X7_goesTicks_2 {d b : Nat} {h0 : PH} {D : Nat → Int → Int} {Q : Int → PH → Prop} {X : Nat → PH → Prop} {m : Int} (V : PIv D) (hm : 0 ≤ m ∧ m ≤ 200) : ∀ (n : Nat) (i : Int) (s : Int → Int) (h : PH) (N : Int), (Md b h0 h D s) → (HI (D 0 3) (D 0 4) (D 0 2) N s) → (0 ≤ i) → (i + n = m) → (N + 481 * n ≤ 1998500000) → (∀ (x : Int) h', x = 0 → Md b h0 h' D (e_tks D n s) → Q x h') → WP k_X7_goesTicks [] (RUN GQ (d + 8)) 0 0 (d + 9) Q X 2 [some (pA b), some (pI m), some (pI i)] [] h 0 0 := by
  intro n
  induction n with
  | zero =>
    intro i s h N M I hk hn hN H
    refine WP.of (RUN.mono GQ _) (cuts := [2]) (n := 400) (v_X7_goesTicks_2 _ _ _ _ _ _ ?_)
    refine ⟨ir (by omega) (by omega), ir (by omega) (by omega), fun c4 => ?_, fun c4 => ?_⟩
    · exfalso; omega
    · exact H _ _ rfl M
  | succ n ih =>
    intro i s h N M I hk hn hN H
    refine WP.of (RUN.mono GQ _) (cuts := [2]) (n := 400) (v_X7_goesTicks_2 _ _ _ _ _ _ ?_)
    refine ⟨ir (by omega) (by omega), ir (by omega) (by omega), fun c4 => ?_, fun c4 => ?_⟩
    · refine ⟨M.k0, ?_⟩
      refine S_X7_ticksOnce M I V (by omega) (fun x8 h8 e8 M8 => ?_)
      subst e8
      have I8 := tick_HI I V rfl rfl
      refine ih _ _ _ _ M8 I8 (by omega) (by omega) (by omega) ?_
      exact H
    · exfalso; omega
theorem S_X7_goesTicks {d b : Nat} {h0 h : PH} {D : Nat → Int → Int} {s : Int → Int} {Q : Int → PH → Prop} {X : Nat → PH → Prop} {N : Int} {m : Int} (M : Md b h0 h D s) (I : HI (D 0 3) (D 0 4) (D 0 2) N s) (V : PIv D) (hN : N ≤ 1998000000) (hm : 0 ≤ m ∧ m ≤ 200) (H : ∀ (x : Int) h', x = (0) → Md b h0 h' D (e_tks D m.toNat s) → Q x h') : RUN GQ (d + 9) m_X7_goesTicks [pA b, pI m] h Q X := by
  rw [e_X7_goesTicks]
  refine WP.of (RUN.mono GQ _) (cuts := [2]) (n := 400) (v_X7_goesTicks_0 _ _ _ _ _ _ ?_)
  refine L_X7_goesTicks_2 V hm (m.toNat) _ _ _ _ M I (by omega) (by omega) (by omega) ?_
  exact H
