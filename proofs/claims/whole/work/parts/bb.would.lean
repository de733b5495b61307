/-! the class: what would be (written by wip/whole/tools/eng.py) -/
section VCS
variable {call : PC} {mc ms fr : Nat} {Q : Int → PH → Prop} {X : Nat → PH → Prop} {K : PK}
set_option maxRecDepth 100000 in
theorem v_X6_passInSpare_0 (a0 : Nat) (i1 : Int) (z2 : Option PV) (h : PH) (c s : Nat) (H : hk h a0 = 7 ∧ hk h a0 = 7 ∧ hk h (hr h a0 8) = 1 ∧ call m_X0_copyFrom [pA (hr h a0 8), pA (hr h a0 6)] h (fun _ h1 =>
 K 13 [some (pA a0), some (pI i1), some (pI 0)] [] h1 c s) X) : wpc k_X6_passInSpare [] call mc ms fr Q X [13] K 400 (pto 0 k_X6_passInSpare) [some (pA a0), some (pI i1), z2] [] h c s :=
  H
set_option maxRecDepth 100000 in
theorem v_X6_passInSpare_13 (a0 : Nat) (i1 : Int) (i2 : Int) (h : PH) (c s : Nat) (H : InR i2 ∧ InR i1 ∧ (i2 < i1 →
 hk h a0 = 7 ∧ hk h a0 = 7 ∧ hk h (hr h a0 8) = 1 ∧ call m_X0_passTick [pA (hr h a0 8), pA (hr h a0 5)] h (fun _ h1 =>
 K 13 [some (pA a0), some (pI i1), some (pI (i2 + 1))] [] h1 c s) X) ∧
(i1 ≤ i2 →
 Q 0 h)) : wpc k_X6_passInSpare [] call mc ms fr Q X [13] K 400 (pto 13 k_X6_passInSpare) [some (pA a0), some (pI i1), some (pI i2)] [] h c s :=
  H
set_option maxRecDepth 100000 in
theorem v_X6_ticksUntilIdle_0 (a0 : Nat) (i1 : Int) (i2 : Int) (z3 : Option PV) (h : PH) (c s : Nat) (H : hk h a0 = 7 ∧ hk h a0 = 7 ∧ hk h (hr h a0 8) = 1 ∧ call m_X0_copyFrom [pA (hr h a0 8), pA (hr h a0 6)] h (fun _ h1 =>
 K 13 [some (pA a0), some (pI i1), some (pI i2), some (pI 0)] [] h1 c s) X) : wpc k_X6_ticksUntilIdle [] call mc ms fr Q X [13] K 400 (pto 0 k_X6_ticksUntilIdle) [some (pA a0), some (pI i1), some (pI i2), z3] [] h c s :=
  H
set_option maxRecDepth 100000 in
theorem v_X6_ticksUntilIdle_13 (a0 : Nat) (i1 : Int) (i2 : Int) (i3 : Int) (h : PH) (c s : Nat) (H : InR i3 ∧ InR 200 ∧ (i3 < 200 →
 hk h a0 = 7 ∧ hk h (hr h a0 8) = 1 ∧ call m_X0_areIdle [pA (hr h a0 8), pI i1, pI i2] h (fun x1 h1 =>
 InR x1 ∧ (x1 = 0 →
 hk h1 a0 = 7 ∧ hk h1 a0 = 7 ∧ hk h1 (hr h1 a0 8) = 1 ∧ call m_X0_passTick [pA (hr h1 a0 8), pA (hr h1 a0 5)] h1 (fun _ h2 =>
 K 13 [some (pA a0), some (pI i1), some (pI i2), some (pI (i3 + 1))] [] h2 c s) X) ∧
(x1 ≠ 0 →
 Q i3 h1)) X) ∧
(200 ≤ i3 →
 hk h a0 = 7 ∧ hk h (hr h a0 8) = 1 ∧ call m_X0_areIdle [pA (hr h a0 8), pI i1, pI i2] h (fun x3 h3 =>
 InR x3 ∧ (x3 = 0 →
 Q ((-1)) h3) ∧
(x3 ≠ 0 →
 Q 200 h3)) X)) : wpc k_X6_ticksUntilIdle [] call mc ms fr Q X [13] K 400 (pto 13 k_X6_ticksUntilIdle) [some (pA a0), some (pI i1), some (pI i2), some (pI i3)] [] h c s :=
  H
set_option maxRecDepth 100000 in
theorem v_X6_ticksUntilEnd_0 (a0 : Nat) (i1 : Int) (z2 : Option PV) (h : PH) (c s : Nat) (H : hk h a0 = 7 ∧ hk h (hr h a0 6) = 1 ∧ hk h (hr h (hr h a0 6) 5) = 2 ∧ call m_X1_programOf [pA (hr h (hr h a0 6) 5), pI i1] h (fun x1 h1 =>
 InR x1 ∧ InR ((-1)) ∧ (x1 = ((-1)) →
 hk h1 a0 = 7 ∧ hk h1 (hr h1 a0 6) = 1 ∧ hk h1 (hr h1 (hr h1 a0 6) 6) = 2 ∧ call m_X1_programOf [pA (hr h1 (hr h1 a0 6) 6), pI i1] h1 (fun x2 h2 =>
 InR x2 ∧ InR ((-1)) ∧ (x2 = ((-1)) →
 Q ((-1)) h2) ∧
(x2 ≠ ((-1)) →
 hk h2 a0 = 7 ∧ hk h2 a0 = 7 ∧ hk h2 (hr h2 a0 8) = 1 ∧ call m_X0_copyFrom [pA (hr h2 a0 8), pA (hr h2 a0 6)] h2 (fun _ h3 =>
 hk h3 a0 = 7 ∧ hk h3 (hr h3 a0 8) = 1 ∧ ∀ h4, h4 = hsi h3 (hr h3 a0 8) 13 i1 →
 K 53 [some (pA a0), some (pI i1), some (pI 1)] [] h4 c s) X)) X) ∧
(x1 ≠ ((-1)) →
 hk h1 a0 = 7 ∧ hk h1 a0 = 7 ∧ hk h1 (hr h1 a0 8) = 1 ∧ call m_X0_copyFrom [pA (hr h1 a0 8), pA (hr h1 a0 6)] h1 (fun _ h5 =>
 hk h5 a0 = 7 ∧ hk h5 (hr h5 a0 8) = 1 ∧ ∀ h6, h6 = hsi h5 (hr h5 a0 8) 13 i1 →
 K 53 [some (pA a0), some (pI i1), some (pI 1)] [] h6 c s) X)) X) : wpc k_X6_ticksUntilEnd [] call mc ms fr Q X [53] K 400 (pto 0 k_X6_ticksUntilEnd) [some (pA a0), some (pI i1), z2] [] h c s :=
  H
set_option maxRecDepth 100000 in
theorem v_X6_ticksUntilEnd_53 (a0 : Nat) (i1 : Int) (i2 : Int) (h : PH) (c s : Nat) (H : InR i2 ∧ InR 200 ∧ (200 < i2 →
 Q ((-1)) h) ∧
(i2 ≤ 200 →
 hk h a0 = 7 ∧ hk h a0 = 7 ∧ hk h (hr h a0 8) = 1 ∧ call m_X0_passTick [pA (hr h a0 8), pA (hr h a0 5)] h (fun _ h1 =>
 hk h1 a0 = 7 ∧ hk h1 (hr h1 a0 8) = 1 ∧ InR (hi h1 (hr h1 a0 8) 14) ∧ InR ((-1)) ∧ ((hi h1 (hr h1 a0 8) 14) = ((-1)) →
 K 53 [some (pA a0), some (pI i1), some (pI (i2 + 1))] [] h1 c s) ∧
((hi h1 (hr h1 a0 8) 14) ≠ ((-1)) →
 Q i2 h1)) X)) : wpc k_X6_ticksUntilEnd [] call mc ms fr Q X [53] K 400 (pto 53 k_X6_ticksUntilEnd) [some (pA a0), some (pI i1), some (pI i2)] [] h c s :=
  H
set_option maxRecDepth 100000 in
theorem v_X6_othersIfMasked_0 (a0 : Nat) (i1 : Int) (i2 : Int) (z3 : Option PV) (h : PH) (c s : Nat) (H : hk h a0 = 7 ∧ hk h a0 = 7 ∧ hk h (hr h a0 8) = 1 ∧ call m_X0_copyFrom [pA (hr h a0 8), pA (hr h a0 6)] h (fun _ h1 =>
 hk h1 a0 = 7 ∧ hk h1 (hr h1 a0 8) = 1 ∧ call m_X0_putMask [pA (hr h1 a0 8), pI i1, pI i2, pI 1] h1 (fun _ h2 =>
 K 23 [some (pA a0), some (pI i1), some (pI i2), some (pI 0)] [] h2 c s) X) X) : wpc k_X6_othersIfMasked [] call mc ms fr Q X [23] K 400 (pto 0 k_X6_othersIfMasked) [some (pA a0), some (pI i1), some (pI i2), z3] [] h c s :=
  H
set_option maxRecDepth 100000 in
theorem v_X6_othersIfMasked_23 (a0 : Nat) (i1 : Int) (i2 : Int) (i3 : Int) (h : PH) (c s : Nat) (H : InR i3 ∧ InR 50 ∧ (i3 < 50 →
 hk h a0 = 7 ∧ hk h a0 = 7 ∧ hk h (hr h a0 8) = 1 ∧ call m_X0_passTick [pA (hr h a0 8), pA (hr h a0 5)] h (fun _ h1 =>
 K 23 [some (pA a0), some (pI i1), some (pI i2), some (pI (i3 + 1))] [] h1 c s) X) ∧
(50 ≤ i3 →
 hk h a0 = 7 ∧ hk h (hr h a0 8) = 1 ∧ call m_X0_tally [pA (hr h a0 8), pI i1, pI 3] h (fun x2 h2 =>
 Q x2 h2) X)) : wpc k_X6_othersIfMasked [] call mc ms fr Q X [23] K 400 (pto 23 k_X6_othersIfMasked) [some (pA a0), some (pI i1), some (pI i2), some (pI i3)] [] h c s :=
  H
end VCS
theorem L_X6_passInSpare_13 {d : Nat} {h0 : PH} {B A A2 : Nat} {EP E D : Nat → Int → Int} {Q : Int → PH → Prop} {X : Nat → PH → Prop} {m : Int} {s : Int → Int} (T : FT h0 B A EP E D s) (T8 : hr h0 64 8 = A2) (dj : DJ A2 A B) (V : PIv D) (U : PT EP D) (hm : 0 ≤ m ∧ m ≤ 200) : ∀ (n : Nat) (i : Int) (E2 : Nat → Int → Int) (r : Int → Int) (h : PH) (N : Int), (Hx A2 h0 h E2) → (HR E2 (D 0 2) (D 0 3) r) → (HI (D 0 3) (D 0 4) (D 0 2) N r) → (0 ≤ i ∧ i + n = m) → (N + 481 * n ≤ 1998000000) → (∀ (x : Int) h' E', x = 0 → Hx A2 h0 h' E' → HR E' (D 0 2) (D 0 3) (e_tks D n r) → Q x h') → WP k_X6_passInSpare [] (RUN GQ (d + 6)) 0 0 (d + 7) Q X 13 [some (pA 64), some (pI m), some (pI i)] [] h 0 0 := by
  intro n
  induction n with
  | zero =>
    intro i E2 r h N M2 R2 I2 hk0 hN H
    obtain ⟨v2, v3, v4, vh⟩ := id V
    refine WP.of (RUN.mono GQ _) (cuts := [13]) (n := 400) (v_X6_passInSpare_13 _ _ _ _ _ _ ?_)
    refine ⟨ir (by omega) (by omega), ir (by omega) (by omega), fun c15 => ?_, fun c15 => ?_⟩
    · exfalso; omega
    · exact H _ _ _ rfl M2 R2
  | succ n ih =>
    intro i E2 r h N M2 R2 I2 hk0 hN H
    obtain ⟨v2, v3, v4, vh⟩ := id V
    refine WP.of (RUN.mono GQ _) (cuts := [13]) (n := 400) (v_X6_passInSpare_13 _ _ _ _ _ _ ?_)
    refine ⟨ir (by omega) (by omega), ir (by omega) (by omega), fun c15 => ?_, fun c15 => ?_⟩
    · refine ⟨(T.sa M2.2.1 dj).k, ?_⟩
      try rw [(M2.2.1.er 64 8).trans T8]
      refine ⟨(T.sa M2.2.1 dj).k, ?_⟩
      try rw [(T.sa M2.2.1 dj).r5]
      refine ⟨Bx.k M2 0 (by decide) rfl, ?_⟩
      refine S_X0_passTick M2 R2 I2 V T.L U.1 dj.2.2.symm (by omega) (fun x26 h26 E26 e26 M26 R26 => ?_)
      subst e26
      have J26 := tick_HI I2 V rfl rfl
      refine ih _ _ _ _ _ M26 R26 J26 (by omega) (by omega) ?_
      exact H
    · exfalso; omega
theorem S_X6_passInSpare {d : Nat} {h0 h : PH} {B A A2 : Nat} {EP E E2 D : Nat → Int → Int} {s : Int → Int} {N : Int} {Q : Int → PH → Prop} {X : Nat → PH → Prop} {m : Int} (T : FT h0 B A EP E D s) (T8 : hr h0 64 8 = A2) (dj : DJ A2 A B) (V : PIv D) (U : PT EP D) (M2 : Hx A2 h0 h E2) (s6 : E2 6 0 = 13) (s9 : E2 9 0 = 4) (I : HI (D 0 3) (D 0 4) (D 0 2) N s) (R : HR E (D 0 2) (D 0 3) s) (sw : s (-1) = -1) (wN : N ≤ 1990000000) (hm : 0 ≤ m ∧ m ≤ 200) (H : ∀ (x : Int) h' E', x = 0 → Hx A2 h0 h' E' → HR E' (D 0 2) (D 0 3) (e_tks D m.toNat s) → Q x h') : RUN GQ (d + 7) m_X6_passInSpare [pA 64, pI m] h Q X := by
  rw [e_X6_passInSpare]
  refine WP.of (RUN.mono GQ _) (cuts := [13]) (n := 400) (v_X6_passInSpare_0 _ _ _ _ _ _ ?_)
  refine ⟨(T.sa M2.2.1 dj).k, ?_⟩
  try rw [(M2.2.1.er 64 8).trans T8]
  refine ⟨(T.sa M2.2.1 dj).k, ?_⟩
  try rw [(T.sa M2.2.1 dj).r6]
  refine ⟨Bx.k M2 0 (by decide) rfl, ?_⟩
  refine S_X0_copyFrom M2 T.M dj.2.1.symm (fun x8 h8 e8 M8 => ?_)
  subst e8
  have qc : ∀ p, 0 ≤ p → p < 6 → s (115 + p) ≤ 13 := fun p a b => by have := I.qn ⟨a, b⟩; have := I.hq.1; omega
  have sc : ∀ p, 0 ≤ p → p < 6 → s (511 + p) ≤ 4 := fun p a b => (I.sn ⟨a, b⟩).2
  have R8 := cpE_HR (E := E2) R s6 s9 qc sc sw
  refine L_X6_passInSpare_13 T T8 dj V U hm (m.toNat) _ _ _ _ _ M8 R8 I (by omega) (by omega) ?_
  exact H
theorem L_X6_ticksUntilIdle_13 {d : Nat} {h0 : PH} {B A A2 : Nat} {EP E D : Nat → Int → Int} {Q : Int → PH → Prop} {X : Nat → PH → Prop} {a z : Int} {p : Int} {s : Int → Int} (T : FT h0 B A EP E D s) (T8 : hr h0 64 8 = A2) (dj : DJ A2 A B) (V : PIv D) (U : PT EP D) (hpz : WHO D a z p) : ∀ (n : Nat) (k : Int) (E2 : Nat → Int → Int) (r : Int → Int) (h : PH) (N : Int), (Hx A2 h0 h E2) → (HR E2 (D 0 2) (D 0 3) r) → (HI (D 0 3) (D 0 4) (D 0 2) N r) → (0 ≤ k ∧ k + n = 200) → (N + 481 * n ≤ 1998000000) → (∀ (x : Int) h' E', x = til D p n k r → Hx A2 h0 h' E' → E' 6 0 = 13 → E' 9 0 = 4 → Q x h') → WP k_X6_ticksUntilIdle [] (RUN GQ (d + 6)) 0 0 (d + 7) Q X 13 [some (pA 64), some (pI a), some (pI z), some (pI k)] [] h 0 0 := by
  intro n
  induction n with
  | zero =>
    intro k E2 r h N M2 R2 I2 hk0 hN H
    obtain ⟨v2, v3, v4, vh⟩ := id V
    have i01 := idc_01 D r p
    have hz : 0 ≤ a ∧ a ≤ z ∧ z ≤ 6 := by unfold WHO at hpz; omega
    refine WP.of (RUN.mono GQ _) (cuts := [13]) (n := 400) (v_X6_ticksUntilIdle_13 _ _ _ _ _ _ _ ?_)
    refine ⟨ir (by omega) (by omega), ir (by omega) (by omega), fun c17 => ?_, fun c17 => ?_⟩
    · exfalso; omega
    · refine ⟨(T.sa M2.2.1 dj).k, ?_⟩
      try rw [(M2.2.1.er 64 8).trans T8]
      refine ⟨Bx.k M2 0 (by decide) rfl, ?_⟩
      refine S_X0_areIdle M2 R2 I2 (by exact hz) (fun x57 e57 => ?_)
      subst e57
      rw [idl_idc I2 V hpz]
      refine ⟨ir (by omega) (by omega), fun c60 => ?_, fun c60 => ?_⟩
      · first
        | exact H _ _ _ (by rw [til, if_pos (by omega)]; omega) M2 R2.r6 R2.r9
        | exact H _ _ _ (by rw [til, if_neg (by omega)]) M2 R2.r6 R2.r9
      · first
        | exact H _ _ _ (by rw [til, if_pos (by omega)]; omega) M2 R2.r6 R2.r9
        | exact H _ _ _ (by rw [til, if_neg (by omega)]) M2 R2.r6 R2.r9
  | succ n ih =>
    intro k E2 r h N M2 R2 I2 hk0 hN H
    obtain ⟨v2, v3, v4, vh⟩ := id V
    have i01 := idc_01 D r p
    have hz : 0 ≤ a ∧ a ≤ z ∧ z ≤ 6 := by unfold WHO at hpz; omega
    refine WP.of (RUN.mono GQ _) (cuts := [13]) (n := 400) (v_X6_ticksUntilIdle_13 _ _ _ _ _ _ _ ?_)
    refine ⟨ir (by omega) (by omega), ir (by omega) (by omega), fun c17 => ?_, fun c17 => ?_⟩
    · refine ⟨(T.sa M2.2.1 dj).k, ?_⟩
      try rw [(M2.2.1.er 64 8).trans T8]
      refine ⟨Bx.k M2 0 (by decide) rfl, ?_⟩
      refine S_X0_areIdle M2 R2 I2 (by exact hz) (fun x26 e26 => ?_)
      subst e26
      rw [idl_idc I2 V hpz]
      refine ⟨ir (by omega) (by omega), fun c29 => ?_, fun c29 => ?_⟩
      · refine ⟨(T.sa M2.2.1 dj).k, ?_⟩
        try rw [(M2.2.1.er 64 8).trans T8]
        refine ⟨(T.sa M2.2.1 dj).k, ?_⟩
        try rw [(T.sa M2.2.1 dj).r5]
        refine ⟨Bx.k M2 0 (by decide) rfl, ?_⟩
        refine S_X0_passTick M2 R2 I2 V T.L U.1 dj.2.2.symm (by omega) (fun x42 h42 E42 e42 M42 R42 => ?_)
        subst e42
        have J42 := tick_HI I2 V rfl rfl
        refine ih _ _ _ _ _ M42 R42 J42 (by omega) (by omega) ?_
        rw [til, if_neg (by omega)] at H
        exact H
      · exact H _ _ _ (by rw [til, if_pos (by omega)]) M2 R2.r6 R2.r9
    · exfalso; omega
theorem S_X6_ticksUntilIdle {d : Nat} {h0 h : PH} {B A A2 : Nat} {EP E E2 D : Nat → Int → Int} {s : Int → Int} {N : Int} {Q : Int → PH → Prop} {X : Nat → PH → Prop} {a z : Int} {p : Int} (T : FT h0 B A EP E D s) (T8 : hr h0 64 8 = A2) (dj : DJ A2 A B) (V : PIv D) (U : PT EP D) (M2 : Hx A2 h0 h E2) (s6 : E2 6 0 = 13) (s9 : E2 9 0 = 4) (I : HI (D 0 3) (D 0 4) (D 0 2) N s) (R : HR E (D 0 2) (D 0 3) s) (sw : s (-1) = -1) (wN : N ≤ 1990000000) (hpz : WHO D a z p) (H : ∀ (x : Int) h' E', x = til D p 200 0 s → Hx A2 h0 h' E' → E' 6 0 = 13 → E' 9 0 = 4 → Q x h') : RUN GQ (d + 7) m_X6_ticksUntilIdle [pA 64, pI a, pI z] h Q X := by
  rw [e_X6_ticksUntilIdle]
  refine WP.of (RUN.mono GQ _) (cuts := [13]) (n := 400) (v_X6_ticksUntilIdle_0 _ _ _ _ _ _ _ ?_)
  refine ⟨(T.sa M2.2.1 dj).k, ?_⟩
  try rw [(M2.2.1.er 64 8).trans T8]
  refine ⟨(T.sa M2.2.1 dj).k, ?_⟩
  try rw [(T.sa M2.2.1 dj).r6]
  refine ⟨Bx.k M2 0 (by decide) rfl, ?_⟩
  refine S_X0_copyFrom M2 T.M dj.2.1.symm (fun x8 h8 e8 M8 => ?_)
  subst e8
  have qc : ∀ p, 0 ≤ p → p < 6 → s (115 + p) ≤ 13 := fun p a b => by have := I.qn ⟨a, b⟩; have := I.hq.1; omega
  have sc : ∀ p, 0 ≤ p → p < 6 → s (511 + p) ≤ 4 := fun p a b => (I.sn ⟨a, b⟩).2
  have R8 := cpE_HR (E := E2) R s6 s9 qc sc sw
  refine L_X6_ticksUntilIdle_13 T T8 dj V U hpz (200) _ _ _ _ _ M8 R8 I (by omega) (by omega) ?_
  exact H
theorem L_X6_ticksUntilEnd_53 {d : Nat} {h0 : PH} {B A A2 : Nat} {EP E D : Nat → Int → Int} {Q : Int → PH → Prop} {X : Nat → PH → Prop} {g : Int} {s : Int → Int} (T : FT h0 B A EP E D s) (T8 : hr h0 64 8 = A2) (dj : DJ A2 A B) (V : PIv D) (U : PT EP D) (hg : 0 ≤ g ∧ g ≤ 1990000000) : ∀ (n : Nat) (k : Int) (E2 : Nat → Int → Int) (r : Int → Int) (h : PH) (N : Int), (Hx A2 h0 h E2) → (HR E2 (D 0 2) (D 0 3) r) → (HI (D 0 3) (D 0 4) (D 0 2) N r) → (1 ≤ k ∧ k + n = 201) → (N + 481 * n ≤ 1998000000) → (r (-1) = g) → (r (-2) = -1) → (∀ (x : Int) h' E', x = cte D n k r → (x ≠ -1 → E' 0 14 = teE D n r) → Hx A2 h0 h' E' → E' 6 0 = 13 → E' 9 0 = 4 → Q x h') → WP k_X6_ticksUntilEnd [] (RUN GQ (d + 6)) 0 0 (d + 7) Q X 53 [some (pA 64), some (pI g), some (pI k)] [] h 0 0 := by
  intro n
  induction n with
  | zero =>
    intro k E2 r h N M2 R2 I2 hk0 hN hr1 hr2 H
    obtain ⟨v2, v3, v4, vh⟩ := id V
    refine WP.of (RUN.mono GQ _) (cuts := [53]) (n := 400) (v_X6_ticksUntilEnd_53 _ _ _ _ _ _ ?_)
    refine ⟨ir (by omega) (by omega), ir (by omega) (by omega), fun c57 => ?_, fun c57 => ?_⟩
    · exact H _ _ _ rfl (fun z => absurd rfl z) M2 R2.r6 R2.r9
    · exfalso; omega
  | succ n ih =>
    intro k E2 r h N M2 R2 I2 hk0 hN hr1 hr2 H
    obtain ⟨v2, v3, v4, vh⟩ := id V
    refine WP.of (RUN.mono GQ _) (cuts := [53]) (n := 400) (v_X6_ticksUntilEnd_53 _ _ _ _ _ _ ?_)
    refine ⟨ir (by omega) (by omega), ir (by omega) (by omega), fun c57 => ?_, fun c57 => ?_⟩
    · exfalso; omega
    · refine ⟨(T.sa M2.2.1 dj).k, ?_⟩
      try rw [(M2.2.1.er 64 8).trans T8]
      refine ⟨(T.sa M2.2.1 dj).k, ?_⟩
      try rw [(T.sa M2.2.1 dj).r5]
      refine ⟨Bx.k M2 0 (by decide) rfl, ?_⟩
      refine S_X0_passTick M2 R2 I2 V T.L U.1 dj.2.2.symm (by omega) (fun x68 h68 E68 e68 M68 R68 => ?_)
      subst e68
      have J68 := tick_HI I2 V rfl rfl
      have tn68 := tick_neg I2 V rfl rfl
      have e14 := R68.fl.2.2.2.2.2 (by rw [tn68]; omega)
      have o68 : -2147483648 ≤ e_tick D r (-2) ∧ e_tick D r (-2) ≤ 2147483647 := J68.ho.2.2.2.2
      refine ⟨(T.sa M68.2.1 dj).k, ?_⟩
      try rw [(M68.2.1.er 64 8).trans T8]
      refine ⟨Bx.k M68 0 (by decide) rfl, ?_⟩
      try rw [show hi h68 A2 14 = _ from Bx.f14 M68 0 (by decide)]
      try rw [e14]
      refine ⟨ir (by omega) (by omega), ir (by omega) (by omega), fun c79 => ?_, fun c79 => ?_⟩
      · refine ih _ _ _ _ _ M68 R68 J68 (by omega) (by omega) (by rw [tn68]; exact hr1) (by omega) ?_
        rw [cte, if_neg (by omega), teE, if_pos hr2] at H
        exact H
      · refine H _ _ _ ?_ ?_ M68 R68.r6 R68.r9
        · rw [cte, if_pos (by omega)]
        · intro _; rw [e14, teE, if_pos hr2, teE_stop D (by omega)]
theorem S_X6_ticksUntilEnd {d : Nat} {h0 h : PH} {B A A2 : Nat} {EP E E2 D : Nat → Int → Int} {s : Int → Int} {N : Int} {Q : Int → PH → Prop} {X : Nat → PH → Prop} {g : Int} (T : FT h0 B A EP E D s) (T8 : hr h0 64 8 = A2) (dj : DJ A2 A B) (V : PIv D) (U : PT EP D) (M2 : Hx A2 h0 h E2) (s6 : E2 6 0 = 13) (s9 : E2 9 0 = 4) (I : HI (D 0 3) (D 0 4) (D 0 2) N s) (R : HR E (D 0 2) (D 0 3) s) (sw : s (-1) = -1) (wN : N ≤ 1990000000) (hg : 0 ≤ g ∧ g < s 1) (H : ∀ (x : Int) h' E', x = eiv D s g → (x ≠ -1 → E' 0 14 = eov D s g) → Hx A2 h0 h' E' → E' 6 0 = 13 → E' 9 0 = 4 → Q x h') : RUN GQ (d + 7) m_X6_ticksUntilEnd [pA 64, pI g] h Q X := by
  obtain ⟨v2, v3, v4, vh⟩ := id V
  have e1 := I.e1
  have pe := pnl_eq (g := g) I v4
  have pr := ppl_spec (s := s) (g := g) (a := 115) (f := qv) 6 0 (by omega)
  have ps := ppl_spec (s := s) (g := g) (a := 511) (f := sv) 6 0 (by omega)
  rw [e_X6_ticksUntilEnd]
  refine WP.of (RUN.mono GQ _) (cuts := [53]) (n := 400) (v_X6_ticksUntilEnd_0 _ _ _ _ _ _ ?_)
  refine ⟨(T.sa M2.2.1 dj).k, ?_⟩
  try rw [(T.sa M2.2.1 dj).r6]
  refine ⟨Bx.k (Bx.sa T.M M2.2.1 dj.2.1) 0 (by decide) rfl, ?_⟩
  try rw [show hr h A 5 = A + 6 from Bx.r (Bx.sa T.M M2.2.1 dj.2.1) 0 5 6 (by decide)]
  refine ⟨Bx.k (Bx.sa T.M M2.2.1 dj.2.1) 6 (by decide) rfl, ?_⟩
  refine S_X1_programOf_q (Bx.sa T.M M2.2.1 dj.2.1) R I (by omega) (by omega) (fun x8 e8 => ?_)
  subst e8
  refine ⟨ir (by omega) (by omega), ir (by omega) (by omega), fun c12 => ?_, fun c12 => ?_⟩
  · refine ⟨(T.sa M2.2.1 dj).k, ?_⟩
    try rw [(T.sa M2.2.1 dj).r6]
    refine ⟨Bx.k (Bx.sa T.M M2.2.1 dj.2.1) 0 (by decide) rfl, ?_⟩
    try rw [show hr h A 6 = A + 9 from Bx.r (Bx.sa T.M M2.2.1 dj.2.1) 0 6 9 (by decide)]
    refine ⟨Bx.k (Bx.sa T.M M2.2.1 dj.2.1) 9 (by decide) rfl, ?_⟩
    refine S_X1_programOf_s (Bx.sa T.M M2.2.1 dj.2.1) R I (by omega) (by omega) (fun x23 e23 => ?_)
    subst e23
    refine ⟨ir (by omega) (by omega), ir (by omega) (by omega), fun c27 => ?_, fun c27 => ?_⟩
    · have pl : pnl s g (D 0 4).toNat 0 = -1 := by rw [pe, if_neg (by omega), if_neg (by omega)]
      have ev : eov D s g = -1 := by rw [eov, if_pos pl]
      refine H _ _ E2 ?_ (fun z => absurd rfl z) M2 s6 s9
      unfold eiv
      rw [ev]
      rfl
    · have pne : pnl s g (D 0 4).toNat 0 ≠ -1 := by rw [pe]; (repeat' split) <;> omega
      refine ⟨(T.sa M2.2.1 dj).k, ?_⟩
      try rw [(M2.2.1.er 64 8).trans T8]
      refine ⟨(T.sa M2.2.1 dj).k, ?_⟩
      try rw [(T.sa M2.2.1 dj).r6]
      refine ⟨Bx.k M2 0 (by decide) rfl, ?_⟩
      refine S_X0_copyFrom M2 T.M dj.2.1.symm (fun x40 h40 e40 M40 => ?_)
      subst e40
      have qc : ∀ p, 0 ≤ p → p < 6 → s (115 + p) ≤ 13 := fun p a b => by have := I.qn ⟨a, b⟩; have := I.hq.1; omega
      have sc : ∀ p, 0 ≤ p → p < 6 → s (511 + p) ≤ 4 := fun p a b => (I.sn ⟨a, b⟩).2
      have R8 := cpE_HR (E := E2) R s6 s9 qc sc sw
      refine ⟨(T.sa M40.2.1 dj).k, ?_⟩
      try rw [(M40.2.1.er 64 8).trans T8]
      refine Bx.pf13 M40 0 1 (by decide) rfl (fun h48 M248 => ?_)
      refine L_X6_ticksUntilEnd_53 T T8 dj V U (by omega) (200) _ _ _ _ _ M248 (wat_HR R8) (watEq I v3.1 v4.1 (by exact ir (by omega) (by omega))) (by omega) (by omega) (by unfold wat; rw [ups_ne (by omega), ups_eq]) (by exact ups_eq _ _ _) ?_
      have w2 : wat s g (-2) = -1 := ups_eq _ _ _
      have ev : eov D s g = teE D 200 (wat s g) := by rw [eov, if_neg (by omega)]
      refine fun x h' E' e z M a b => H x h' E' ?_ ?_ M a b
      · rw [e, cte_eq D 200 1 _ w2]; unfold eiv; rw [ev]; rfl
      · intro y; rw [z y, ev]
  · have pne : pnl s g (D 0 4).toNat 0 ≠ -1 := by rw [pe]; (repeat' split) <;> omega
    refine ⟨(T.sa M2.2.1 dj).k, ?_⟩
    try rw [(M2.2.1.er 64 8).trans T8]
    refine ⟨(T.sa M2.2.1 dj).k, ?_⟩
    try rw [(T.sa M2.2.1 dj).r6]
    refine ⟨Bx.k M2 0 (by decide) rfl, ?_⟩
    refine S_X0_copyFrom M2 T.M dj.2.1.symm (fun x40 h40 e40 M40 => ?_)
    subst e40
    have qc : ∀ p, 0 ≤ p → p < 6 → s (115 + p) ≤ 13 := fun p a b => by have := I.qn ⟨a, b⟩; have := I.hq.1; omega
    have sc : ∀ p, 0 ≤ p → p < 6 → s (511 + p) ≤ 4 := fun p a b => (I.sn ⟨a, b⟩).2
    have R8 := cpE_HR (E := E2) R s6 s9 qc sc sw
    refine ⟨(T.sa M40.2.1 dj).k, ?_⟩
    try rw [(M40.2.1.er 64 8).trans T8]
    refine Bx.pf13 M40 0 1 (by decide) rfl (fun h48 M248 => ?_)
    refine L_X6_ticksUntilEnd_53 T T8 dj V U (by omega) (200) _ _ _ _ _ M248 (wat_HR R8) (watEq I v3.1 v4.1 (by exact ir (by omega) (by omega))) (by omega) (by omega) (by unfold wat; rw [ups_ne (by omega), ups_eq]) (by exact ups_eq _ _ _) ?_
    have w2 : wat s g (-2) = -1 := ups_eq _ _ _
    have ev : eov D s g = teE D 200 (wat s g) := by rw [eov, if_neg (by omega)]
    refine fun x h' E' e z M a b => H x h' E' ?_ ?_ M a b
    · rw [e, cte_eq D 200 1 _ w2]; unfold eiv; rw [ev]; rfl
    · intro y; rw [z y, ev]
theorem L_X6_othersIfMasked_23 {d : Nat} {h0 : PH} {B A A2 : Nat} {EP E D : Nat → Int → Int} {Q : Int → PH → Prop} {X : Nat → PH → Prop} {p k : Int} {s : Int → Int} (T : FT h0 B A EP E D s) (T8 : hr h0 64 8 = A2) (dj : DJ A2 A B) (V : PIv D) (U : PT EP D) (hp6 : 0 ≤ p ∧ p < 6) : ∀ (n : Nat) (i : Int) (E2 : Nat → Int → Int) (r : Int → Int) (h : PH) (N : Int), (Hx A2 h0 h E2) → (HR E2 (D 0 2) (D 0 3) r) → (HI (D 0 3) (D 0 4) (D 0 2) N r) → (0 ≤ i ∧ i + n = 50) → (N + 481 * n ≤ 1998000000) → (∀ (x : Int) h' E', x = e_tks D n r (91 + 4 * p + 3) → Hx A2 h0 h' E' → E' 6 0 = 13 → E' 9 0 = 4 → Q x h') → WP k_X6_othersIfMasked [] (RUN GQ (d + 6)) 0 0 (d + 7) Q X 23 [some (pA 64), some (pI p), some (pI k), some (pI i)] [] h 0 0 := by
  intro n
  induction n with
  | zero =>
    intro i E2 r h N M2 R2 I2 hk0 hN H
    obtain ⟨v2, v3, v4, vh⟩ := id V
    refine WP.of (RUN.mono GQ _) (cuts := [23]) (n := 400) (v_X6_othersIfMasked_23 _ _ _ _ _ _ _ ?_)
    refine ⟨ir (by omega) (by omega), ir (by omega) (by omega), fun c26 => ?_, fun c26 => ?_⟩
    · exfalso; omega
    · refine ⟨(T.sa M2.2.1 dj).k, ?_⟩
      try rw [(M2.2.1.er 64 8).trans T8]
      refine ⟨Bx.k M2 0 (by decide) rfl, ?_⟩
      refine S_X0_tally M2 R2 I2 (by omega) (by omega) (fun x52 e52 => ?_)
      subst e52
      exact H _ _ _ rfl M2 R2.r6 R2.r9
  | succ n ih =>
    intro i E2 r h N M2 R2 I2 hk0 hN H
    obtain ⟨v2, v3, v4, vh⟩ := id V
    refine WP.of (RUN.mono GQ _) (cuts := [23]) (n := 400) (v_X6_othersIfMasked_23 _ _ _ _ _ _ _ ?_)
    refine ⟨ir (by omega) (by omega), ir (by omega) (by omega), fun c26 => ?_, fun c26 => ?_⟩
    · refine ⟨(T.sa M2.2.1 dj).k, ?_⟩
      try rw [(M2.2.1.er 64 8).trans T8]
      refine ⟨(T.sa M2.2.1 dj).k, ?_⟩
      try rw [(T.sa M2.2.1 dj).r5]
      refine ⟨Bx.k M2 0 (by decide) rfl, ?_⟩
      refine S_X0_passTick M2 R2 I2 V T.L U.1 dj.2.2.symm (by omega) (fun x37 h37 E37 e37 M37 R37 => ?_)
      subst e37
      have J37 := tick_HI I2 V rfl rfl
      refine ih _ _ _ _ _ M37 R37 J37 (by omega) (by omega) ?_
      exact H
    · exfalso; omega
theorem S_X6_othersIfMasked {d : Nat} {h0 h : PH} {B A A2 : Nat} {EP E E2 D : Nat → Int → Int} {s : Int → Int} {N : Int} {Q : Int → PH → Prop} {X : Nat → PH → Prop} {p k : Int} (T : FT h0 B A EP E D s) (T8 : hr h0 64 8 = A2) (dj : DJ A2 A B) (V : PIv D) (U : PT EP D) (M2 : Hx A2 h0 h E2) (s6 : E2 6 0 = 13) (s9 : E2 9 0 = 4) (I : HI (D 0 3) (D 0 4) (D 0 2) N s) (R : HR E (D 0 2) (D 0 3) s) (sw : s (-1) = -1) (wN : N ≤ 1990000000) (hp6 : 0 ≤ p ∧ p < 6) (H : ∀ (x : Int) h' E', x = e_tks D 50 (bmm s p k) (91 + 4 * p + 3) → Hx A2 h0 h' E' → E' 6 0 = 13 → E' 9 0 = 4 → Q x h') : RUN GQ (d + 7) m_X6_othersIfMasked [pA 64, pI p, pI k] h Q X := by
  obtain ⟨v2, v3, v4, vh⟩ := id V
  rw [e_X6_othersIfMasked]
  refine WP.of (RUN.mono GQ _) (cuts := [23]) (n := 400) (v_X6_othersIfMasked_0 _ _ _ _ _ _ _ ?_)
  refine ⟨(T.sa M2.2.1 dj).k, ?_⟩
  try rw [(M2.2.1.er 64 8).trans T8]
  refine ⟨(T.sa M2.2.1 dj).k, ?_⟩
  try rw [(T.sa M2.2.1 dj).r6]
  refine ⟨Bx.k M2 0 (by decide) rfl, ?_⟩
  refine S_X0_copyFrom M2 T.M dj.2.1.symm (fun x8 h8 e8 M8 => ?_)
  subst e8
  have qc : ∀ p, 0 ≤ p → p < 6 → s (115 + p) ≤ 13 := fun p a b => by have := I.qn ⟨a, b⟩; have := I.hq.1; omega
  have sc : ∀ p, 0 ≤ p → p < 6 → s (511 + p) ≤ 4 := fun p a b => (I.sn ⟨a, b⟩).2
  have R8 := cpE_HR (E := E2) R s6 s9 qc sc sw
  refine ⟨(T.sa M8.2.1 dj).k, ?_⟩
  try rw [(M8.2.1.er 64 8).trans T8]
  refine ⟨Bx.k M8 0 (by decide) rfl, ?_⟩
  refine S_X0_putMask M8 (by omega) (by omega) (fun x18 h18 e18 M18 => ?_)
  subst e18
  have mk : cpE E E2 4 p = s (85 + p) := R8.mk hp6
  rw [if_neg (by decide), mk] at M18
  refine L_X6_othersIfMasked_23 T T8 dj V U hp6 (50) _ _ _ _ _ M18 (hr_msk R8 hp6) (msk_HI I v3.1 v4.1 hp6 (bor_InR _ _)) (by omega) (by omega) ?_
  exact H
