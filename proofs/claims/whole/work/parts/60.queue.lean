/-! the model's queues (written by wip/whole/tools/eng.py) -/
section VCS
variable {call : PC} {mc ms fr : Nat} {Q : Int → PH → Prop} {X : Nat → PH → Prop} {K : PK}
set_option maxRecDepth 100000 in
theorem v_X7_leaves_0 (a0 : Nat) (i1 : Int) (i2 : Int) (z3 : Option PV) (h : PH) (c s : Nat) (H : hk h a0 = 8 ∧ (hk h (hr h a0 11) = 20 ∨ hk h (hr h a0 11) = 26) ∧ (0 ≤ (115 + i1) ∧ (115 + i1) < (hl h (hr h a0 11) : Int)) ∧ hk h (hr h a0 11) = 20 ∧ (0 ≤ (115 + i1) ∧ (115 + i1) < (hl h (hr h a0 11) : Int)) ∧ ∀ h1, h1 = hsi h (hr h a0 11) (Int.toNat ((115 + i1))) ((hi h (hr h a0 11) (Int.toNat ((115 + i1)))) - 1) →
 K 25 [some (pA a0), some (pI i1), some (pI i2), some (pI (121 + (5 * ((13 * i1) + i2))))] [] h1 c s) : wpc k_X7_leaves [] call mc ms fr Q X [25] K 400 (pto 0 k_X7_leaves) [some (pA a0), some (pI i1), some (pI i2), z3] [] h c s :=
  H
set_option maxRecDepth 100000 in
theorem v_X7_leaves_25 (a0 : Nat) (i1 : Int) (i2 : Int) (i3 : Int) (h : PH) (c s : Nat) (H : hk h a0 = 8 ∧ (hk h (hr h a0 11) = 20 ∨ hk h (hr h a0 11) = 26) ∧ (0 ≤ (115 + i1) ∧ (115 + i1) < (hl h (hr h a0 11) : Int)) ∧ InR i3 ∧ InR (121 + (5 * ((13 * i1) + (hi h (hr h a0 11) (Int.toNat ((115 + i1))))))) ∧ (i3 < (121 + (5 * ((13 * i1) + (hi h (hr h a0 11) (Int.toNat ((115 + i1))))))) →
 hk h a0 = 8 ∧ hk h a0 = 8 ∧ (hk h (hr h a0 11) = 20 ∨ hk h (hr h a0 11) = 26) ∧ (0 ≤ (i3 + 5) ∧ (i3 + 5) < (hl h (hr h a0 11) : Int)) ∧ hk h (hr h a0 11) = 20 ∧ (0 ≤ i3 ∧ i3 < (hl h (hr h a0 11) : Int)) ∧ ∀ h1, h1 = hsi h (hr h a0 11) (Int.toNat i3) (hi h (hr h a0 11) (Int.toNat ((i3 + 5)))) →
 K 25 [some (pA a0), some (pI i1), some (pI i2), some (pI (i3 + 1))] [] h1 c s) ∧
((121 + (5 * ((13 * i1) + (hi h (hr h a0 11) (Int.toNat ((115 + i1))))))) ≤ i3 →
 Q 0 h)) : wpc k_X7_leaves [] call mc ms fr Q X [25] K 400 (pto 25 k_X7_leaves) [some (pA a0), some (pI i1), some (pI i2), some (pI i3)] [] h c s :=
  H
set_option maxRecDepth 100000 in
theorem v_X7_endsInQueue_0 (a0 : Nat) (i1 : Int) (i2 : Int) (i3 : Int) (z4 : Option PV) (z5 : Option PV) (h : PH) (c s : Nat) (H : hk h a0 = 8 ∧ call m_X7_inQueue [pA a0, pI i1, pI i2, pI 0] h (fun x1 h1 =>
 hk h1 a0 = 8 ∧ call m_X7_inQueue [pA a0, pI i1, pI i2, pI 1] h1 (fun x2 h2 =>
 hk h2 a0 = 8 ∧ call m_X7_leaves [pA a0, pI i1, pI i2] h2 (fun _ h3 =>
 hk h3 a0 = 8 ∧ call m_X7_ends [pA a0, pI x1, pI i3, pI i1, pI x2] h3 (fun _ h4 =>
 Q 0 h4) X) X) X) X) : wpc k_X7_endsInQueue [] call mc ms fr Q X [] K 400 (pto 0 k_X7_endsInQueue) [some (pA a0), some (pI i1), some (pI i2), some (pI i3), z4, z5] [] h c s :=
  H
set_option maxRecDepth 100000 in
theorem v_X7_isAhead_0 (a0 : Nat) (i1 : Int) (i2 : Int) (i3 : Int) (z4 : Option PV) (z5 : Option PV) (h : PH) (c s : Nat) (H : hk h a0 = 8 ∧ call m_X7_inQueue [pA a0, pI i1, pI i2, pI 1] h (fun x1 h1 =>
 hk h1 a0 = 8 ∧ call m_X7_urgencyOf [pA a0, pI i1, pI x1] h1 (fun x2 h2 =>
 hk h2 a0 = 8 ∧ call m_X7_inQueue [pA a0, pI i1, pI i3, pI 1] h2 (fun x3 h3 =>
 hk h3 a0 = 8 ∧ call m_X7_urgencyOf [pA a0, pI i1, pI x3] h3 (fun x4 h4 =>
 InR x2 ∧ InR x4 ∧ (x2 = x4 →
 InR i2 ∧ InR i3 ∧ (i2 < i3 →
 ((1 : Int) = 0 ∨ (1 : Int) = 1) ∧ Q 1 h4) ∧
(i3 ≤ i2 →
 ((0 : Int) = 0 ∨ (0 : Int) = 1) ∧ Q 0 h4)) ∧
(x2 ≠ x4 →
 InR x2 ∧ InR x4 ∧ (x4 < x2 →
 ((1 : Int) = 0 ∨ (1 : Int) = 1) ∧ Q 1 h4) ∧
(x2 ≤ x4 →
 ((0 : Int) = 0 ∨ (0 : Int) = 1) ∧ Q 0 h4))) X) X) X) X) : wpc k_X7_isAhead [] call mc ms fr Q X [] K 400 (pto 0 k_X7_isAhead) [some (pA a0), some (pI i1), some (pI i2), some (pI i3), z4, z5] [] h c s :=
  H
set_option maxRecDepth 100000 in
theorem v_X7_placeOf_0 (a0 : Nat) (i1 : Int) (i2 : Int) (z3 : Option PV) (z4 : Option PV) (z5 : Option PV) (h : PH) (c s : Nat) (H : K 2 [some (pA a0), some (pI i1), some (pI i2), some (pI 0), z4, z5] [] h c s) : wpc k_X7_placeOf [] call mc ms fr Q X [2, 21] K 400 (pto 0 k_X7_placeOf) [some (pA a0), some (pI i1), some (pI i2), z3, z4, z5] [] h c s :=
  H
set_option maxRecDepth 100000 in
theorem v_X7_placeOf_2 (a0 : Nat) (i1 : Int) (i2 : Int) (i3 : Int) (z4 : Option PV) (z5 : Option PV) (h : PH) (c s : Nat) (H : hk h a0 = 8 ∧ (hk h (hr h a0 11) = 20 ∨ hk h (hr h a0 11) = 26) ∧ (0 ≤ (115 + i1) ∧ (115 + i1) < (hl h (hr h a0 11) : Int)) ∧ InR i3 ∧ InR (hi h (hr h a0 11) (Int.toNat ((115 + i1)))) ∧ (i3 < (hi h (hr h a0 11) (Int.toNat ((115 + i1)))) →
 K 21 [some (pA a0), some (pI i1), some (pI i2), some (pI i3), some (pI 0), some (pI 0)] [] h c s) ∧
((hi h (hr h a0 11) (Int.toNat ((115 + i1)))) ≤ i3 →
 Q ((-1)) h)) : wpc k_X7_placeOf [] call mc ms fr Q X [2, 21] K 400 (pto 2 k_X7_placeOf) [some (pA a0), some (pI i1), some (pI i2), some (pI i3), z4, z5] [] h c s :=
  H
set_option maxRecDepth 100000 in
theorem v_X7_placeOf_21 (a0 : Nat) (i1 : Int) (i2 : Int) (i3 : Int) (i4 : Int) (i5 : Int) (h : PH) (c s : Nat) (H : hk h a0 = 8 ∧ (hk h (hr h a0 11) = 20 ∨ hk h (hr h a0 11) = 26) ∧ (0 ≤ (115 + i1) ∧ (115 + i1) < (hl h (hr h a0 11) : Int)) ∧ InR i5 ∧ InR (hi h (hr h a0 11) (Int.toNat ((115 + i1)))) ∧ (i5 < (hi h (hr h a0 11) (Int.toNat ((115 + i1)))) →
 InR i5 ∧ InR i3 ∧ (i5 = i3 →
 call m_X7_flag [pI 0] h (fun x1 h1 =>
 K 21 [some (pA a0), some (pI i1), some (pI i2), some (pI i3), some (pI (i4 + x1)), some (pI (i5 + 1))] [] h1 c s) X) ∧
(i5 ≠ i3 →
 hk h a0 = 8 ∧ call m_X7_isAhead [pA a0, pI i1, pI i5, pI i3] h (fun x2 h2 =>
 InR x2 ∧ (x2 = 0 →
 call m_X7_flag [pI 0] h2 (fun x3 h3 =>
 K 21 [some (pA a0), some (pI i1), some (pI i2), some (pI i3), some (pI (i4 + x3)), some (pI (i5 + 1))] [] h3 c s) X) ∧
(x2 ≠ 0 →
 call m_X7_flag [pI 1] h2 (fun x4 h4 =>
 K 21 [some (pA a0), some (pI i1), some (pI i2), some (pI i3), some (pI (i4 + x4)), some (pI (i5 + 1))] [] h4 c s) X)) X)) ∧
((hi h (hr h a0 11) (Int.toNat ((115 + i1)))) ≤ i5 →
 InR i4 ∧ InR i2 ∧ (i4 = i2 →
 Q i3 h) ∧
(i4 ≠ i2 →
 K 2 [some (pA a0), some (pI i1), some (pI i2), some (pI (i3 + 1)), some (pI i4), some (pI i5)] [] h c s))) : wpc k_X7_placeOf [] call mc ms fr Q X [2, 21] K 400 (pto 21 k_X7_placeOf) [some (pA a0), some (pI i1), some (pI i2), some (pI i3), some (pI i4), some (pI i5)] [] h c s :=
  H
end VCS
theorem L_X7_leaves_25 {d b : Nat} {h0 : PH} {D : Nat → Int → Int} {Q : Int → PH → Prop} {X : Nat → PH → Prop} {p k : Int} (hp : 0 ≤ p ∧ p < 6) : ∀ (n : Nat) (i : Int) (s : Int → Int) (h : PH), (Md b h0 h D s) → (121 ≤ i) → (i + n = 121 + 5 * (13 * p + s (115 + p))) → (i + n ≤ 511) → (∀ (x : Int) h', x = 0 → Md b h0 h' D (sfl 5 n i s) → Q x h') → WP k_X7_leaves [] (RUN GQ (d + 0)) 0 0 (d + 1) Q X 25 [some (pA b), some (pI p), some (pI k), some (pI i)] [] h 0 0 := by
  intro n
  induction n with
  | zero =>
    intro i s h M hi hn hb H
    refine WP.of (RUN.mono GQ _) (cuts := [25]) (n := 400) (v_X7_leaves_25 _ _ _ _ _ _ _ ?_)
    refine ⟨M.k0, ?_⟩
    try rw [M.r11]
    refine M.ld6 (by omega) (by omega) (fun er => ?_)
    try rw [er]
    clear er
    refine ⟨ir (by omega) (by omega), ir (by omega) (by omega), fun c45 => ?_, fun c45 => ?_⟩
    · exfalso; omega
    · refine H _ _ ?_ ?_
      · first | rfl | omega
      · exact M
  | succ n ih =>
    intro i s h M hi hn hb H
    refine WP.of (RUN.mono GQ _) (cuts := [25]) (n := 400) (v_X7_leaves_25 _ _ _ _ _ _ _ ?_)
    refine ⟨M.k0, ?_⟩
    try rw [M.r11]
    refine M.ld6 (by omega) (by omega) (fun er => ?_)
    try rw [er]
    clear er
    refine ⟨ir (by omega) (by omega), ir (by omega) (by omega), fun c45 => ?_, fun c45 => ?_⟩
    · refine ⟨M.k0, ?_⟩
      try rw [M.r11]
      refine ⟨M.k0, ?_⟩
      try rw [M.r11]
      refine M.ld6 (by omega) (by omega) (fun er => ?_)
      try rw [er]
      clear er
      refine M.as6 (by omega) (by omega) (fun h61 M61 => ?_)
      refine ih _ _ _ M61 (by omega) (by rw [ups_ne (by omega)]; omega) (by omega) ?_
      exact H
    · exfalso; omega
theorem S_X7_leaves {d b : Nat} {h0 h : PH} {D : Nat → Int → Int} {s : Int → Int} {Q : Int → PH → Prop} {X : Nat → PH → Prop} {p k : Int} (M : Md b h0 h D s) (hp : 0 ≤ p ∧ p < 6) (hk : 0 ≤ k ∧ k < s (115 + p)) (hc : s (115 + p) ≤ 13) (H : ∀ (x : Int) h', x = (0) → Md b h0 h' D (e_lv s p k) → Q x h') : RUN GQ (d + 1) m_X7_leaves [pA b, pI p, pI k] h Q X := by
  rw [e_X7_leaves]
  refine WP.of (RUN.mono GQ _) (cuts := [25]) (n := 400) (v_X7_leaves_0 _ _ _ _ _ _ _ ?_)
  refine ⟨M.k0, ?_⟩
  try rw [M.r11]
  refine M.ld6 (by omega) (by omega) (fun er => ?_)
  try rw [er]
  clear er
  refine M.as6 (by omega) (by omega) (fun h12 M12 => ?_)
  refine L_X7_leaves_25 hp ((5 * ((ups s (115 + p) (s (115 + p) - 1)) (115 + p) - k)).toNat) _ _ _ M12 (by omega) (by rw [ups_eq]; omega) (by rw [ups_eq]; omega) ?_
  exact H
theorem S_X7_endsInQueue {d b : Nat} {h0 h : PH} {D : Nat → Int → Int} {s : Int → Int} {Q : Int → PH → Prop} {X : Nat → PH → Prop} {K P c N : Int} {p k t : Int} (M : Md b h0 h D s) (I : HI K P c N s) (hK : 0 ≤ K ∧ K ≤ 8) (hN : N ≤ 2000000000) (hp : 0 ≤ p ∧ p < 6) (hk : 0 ≤ k ∧ k < s (115 + p)) (ht : 0 ≤ t ∧ t < 6) (H : ∀ (x : Int) h', x = (0) → Md b h0 h' D (e_eiq s p k t) → Q x h') : RUN GQ (d + 3) m_X7_endsInQueue [pA b, pI p, pI k, pI t] h Q X := by
  have q0 := I.qn hp
  have q13 := I.hq.1
  have q2 := I.e2
  have qo := I.ho
  have qk := I.qe hp hk
  unfold QE at qk
  rw [e_X7_endsInQueue]
  refine WP.of (RUN.mono GQ _) (cuts := []) (n := 400) (v_X7_endsInQueue_0 _ _ _ _ _ _ _ _ _ ?_)
  refine ⟨M.k0, ?_⟩
  refine S_X7_inQueue M (by omega) (by omega) (by omega) (fun x4 e4 => ?_)
  subst e4
  refine ⟨M.k0, ?_⟩
  refine S_X7_inQueue M (by omega) (by omega) (by omega) (fun x13 e13 => ?_)
  subst e13
  refine ⟨M.k0, ?_⟩
  refine S_X7_leaves M (by omega) (by omega) (by omega) (fun x21 h21 e21 M21 => ?_)
  subst e21
  refine ⟨M21.k0, ?_⟩
  refine S_X7_ends M21 (by omega) (by omega) (by rw [elv_ne hp hk (by omega) (by omega) (by omega)]; omega) (by have := I.e1; exact ⟨by omega, by omega⟩) (by rw [elv_ne hp hk (by omega) (by omega) (by omega)]; exact qo.2.2.2.1) (fun x31 h31 e31 M31 => ?_)
  subst e31
  refine H _ _ ?_ ?_
  · first | rfl | (unfold e_eiq; (repeat' split) <;> first | rfl | assumption | (exfalso; omega) | omega)
  · first | exact M31 | (simp only [e_eiq]; (repeat' split) <;> first | exact M31 | (exfalso; omega))
theorem S_X7_isAhead {d b : Nat} {h0 h : PH} {D : Nat → Int → Int} {s : Int → Int} {Q : Int → PH → Prop} {X : Nat → PH → Prop} {K P c N : Int} {p k o : Int} (M : Md b h0 h D s) (I : HI K P c N s) (hK : 0 ≤ K ∧ K ≤ 8) (hN : N ≤ 2000000000) (hp : 0 ≤ p ∧ p < 6) (hk : 0 ≤ k ∧ k < s (115 + p)) (ho : 0 ≤ o ∧ o < s (115 + p)) (H : ∀ x : Int, x = (ahd s p k o) → Q x h) : RUN GQ (d + 3) m_X7_isAhead [pA b, pI p, pI k, pI o] h Q X := by
  have q0 := I.qn hp
  have q13 := I.hq.1
  have qk := I.qe hp hk
  have qo := I.qe hp ho
  unfold QE at qk qo
  have u1 := I.ur hp (k := qv s p k 1) ⟨qk.2.1.1, by omega⟩
  have u2 := I.ur hp (k := qv s p o 1) ⟨qo.2.1.1, by omega⟩
  rw [e_X7_isAhead]
  refine WP.of (RUN.mono GQ _) (cuts := []) (n := 400) (v_X7_isAhead_0 _ _ _ _ _ _ _ _ _ ?_)
  refine ⟨M.k0, ?_⟩
  refine S_X7_inQueue M (by omega) (by omega) (by omega) (fun x6 e6 => ?_)
  subst e6
  refine ⟨M.k0, ?_⟩
  refine S_X7_urgencyOf M (by omega) (by omega) (by exact u1.2) (fun x9 e9 => ?_)
  subst e9
  refine ⟨M.k0, ?_⟩
  refine S_X7_inQueue M (by omega) (by omega) (by omega) (fun x20 e20 => ?_)
  subst e20
  refine ⟨M.k0, ?_⟩
  refine S_X7_urgencyOf M (by omega) (by omega) (by exact u2.2) (fun x23 e23 => ?_)
  subst e23
  refine ⟨ir (by omega) (by omega), ir (by omega) (by omega), fun c32 => ?_, fun c32 => ?_⟩
  · refine ⟨ir (by omega) (by omega), ir (by omega) (by omega), fun c52 => ?_, fun c52 => ?_⟩
    · refine ⟨(by omega), ?_⟩
      refine H _ ?_
      first | rfl | (unfold ahd; (repeat' split) <;> first | rfl | assumption | (exfalso; omega) | omega)
    · refine ⟨(by omega), ?_⟩
      refine H _ ?_
      first | rfl | (unfold ahd; (repeat' split) <;> first | rfl | assumption | (exfalso; omega) | omega)
  · refine ⟨ir (by omega) (by omega), ir (by omega) (by omega), fun c39 => ?_, fun c39 => ?_⟩
    · refine ⟨(by omega), ?_⟩
      refine H _ ?_
      first | rfl | (unfold ahd; (repeat' split) <;> first | rfl | assumption | (exfalso; omega) | omega)
    · refine ⟨(by omega), ?_⟩
      refine H _ ?_
      first | rfl | (unfold ahd; (repeat' split) <;> first | rfl | assumption | (exfalso; omega) | omega)
theorem L_X7_placeOf_21 {d b : Nat} {h0 h : PH} {D : Nat → Int → Int} {s : Int → Int} {Q : Int → PH → Prop} {X : Nat → PH → Prop} {K P c N : Int} {p y : Int} {k : Int} (M : Md b h0 h D s) (I : HI K P c N s) (hK : 0 ≤ K ∧ K ≤ 8) (hN : N ≤ 2000000000) (hp : 0 ≤ p ∧ p < 6) (hx : InR y) (hk : 0 ≤ k ∧ k < s (115 + p)) : ∀ (n : Nat) (a o : Int), (0 ≤ o) → (o + n = s (115 + p)) → (0 ≤ a ∧ a ≤ o) → ((cntl s p k n o a = y → Q k h) ∧ (cntl s p k n o a ≠ y → ∀ z4 z5 : Option PV, WP k_X7_placeOf [] (RUN GQ (d + 3)) 0 0 (d + 4) Q X 2 [some (pA b), some (pI p), some (pI y), some (pI (k + 1)), z4, z5] [] h 0 0)) → WP k_X7_placeOf [] (RUN GQ (d + 3)) 0 0 (d + 4) Q X 21 [some (pA b), some (pI p), some (pI y), some (pI k), some (pI a), some (pI o)] [] h 0 0 := by
  intro n
  induction n with
  | zero =>
    intro a o ho hn ha H
    have q0 := I.qn hp
    have q13 := I.hq.1
    have a01 := ahd_01 (s := s) (p := p) o k
    refine WP.of (RUN.mono GQ _) (cuts := [2, 21]) (n := 400) (v_X7_placeOf_21 _ _ _ _ _ _ _ _ _ ?_)
    refine ⟨M.k0, ?_⟩
    try rw [M.r11]
    refine M.ld6 (by omega) (by omega) (fun er => ?_)
    try rw [er]
    clear er
    refine ⟨ir (by omega) (by omega), ir (by omega) (by omega), fun c32 => ?_, fun c32 => ?_⟩
    · exfalso; omega
    · refine ⟨ir (by omega) (by omega), ir (by omega) (by omega), fun c74 => ?_, fun c74 => ?_⟩
      · exact H.1 c74
      · exact H.2 c74 _ _
  | succ n ih =>
    intro a o ho hn ha H
    have q0 := I.qn hp
    have q13 := I.hq.1
    have a01 := ahd_01 (s := s) (p := p) o k
    refine WP.of (RUN.mono GQ _) (cuts := [2, 21]) (n := 400) (v_X7_placeOf_21 _ _ _ _ _ _ _ _ _ ?_)
    refine ⟨M.k0, ?_⟩
    try rw [M.r11]
    refine M.ld6 (by omega) (by omega) (fun er => ?_)
    try rw [er]
    clear er
    refine ⟨ir (by omega) (by omega), ir (by omega) (by omega), fun c32 => ?_, fun c32 => ?_⟩
    · refine ⟨ir (by omega) (by omega), ir (by omega) (by omega), fun c40 => ?_, fun c40 => ?_⟩
      · refine S_X7_flag (by omega) (fun x59 e59 => ?_)
        subst e59
        refine ih _ _ (by omega) (by omega) (by omega) ?_
        have e : cntl s p k (n + 1) o a = cntl s p k n (o + 1) (a + (if o = k then 0 else ahd s p o k)) := rfl
        rw [e] at H
        first | (rw [if_pos (by omega)] at H; exact H) | (rw [if_neg (by omega)] at H; first | exact H | (rw [show ahd s p o k = 1 by omega] at H; exact H) | (rw [show ahd s p o k = 0 by omega] at H; exact H))
      · refine ⟨M.k0, ?_⟩
        refine S_X7_isAhead M I hK hN (by omega) (by omega) (by omega) (fun x48 e48 => ?_)
        subst e48
        refine ⟨ir (by omega) (by omega), fun c51 => ?_, fun c51 => ?_⟩
        · refine S_X7_flag (by omega) (fun x59 e59 => ?_)
          subst e59
          refine ih _ _ (by omega) (by omega) (by omega) ?_
          have e : cntl s p k (n + 1) o a = cntl s p k n (o + 1) (a + (if o = k then 0 else ahd s p o k)) := rfl
          rw [e] at H
          first | (rw [if_pos (by omega)] at H; exact H) | (rw [if_neg (by omega)] at H; first | exact H | (rw [show ahd s p o k = 1 by omega] at H; exact H) | (rw [show ahd s p o k = 0 by omega] at H; exact H))
        · refine S_X7_flag (by omega) (fun x59 e59 => ?_)
          subst e59
          refine ih _ _ (by omega) (by omega) (by omega) ?_
          have e : cntl s p k (n + 1) o a = cntl s p k n (o + 1) (a + (if o = k then 0 else ahd s p o k)) := rfl
          rw [e] at H
          first | (rw [if_pos (by omega)] at H; exact H) | (rw [if_neg (by omega)] at H; first | exact H | (rw [show ahd s p o k = 1 by omega] at H; exact H) | (rw [show ahd s p o k = 0 by omega] at H; exact H))
    · exfalso; omega
theorem L_X7_placeOf_2 {d b : Nat} {h0 h : PH} {D : Nat → Int → Int} {s : Int → Int} {Q : Int → PH → Prop} {X : Nat → PH → Prop} {K P c N : Int} {p y : Int} (M : Md b h0 h D s) (I : HI K P c N s) (hK : 0 ≤ K ∧ K ≤ 8) (hN : N ≤ 2000000000) (hp : 0 ≤ p ∧ p < 6) (hx : InR y) : ∀ (n : Nat) (k : Int) (z4 z5 : Option PV), (0 ≤ k) → (k + n = s (115 + p)) → (∀ x : Int, x = plcl s p y n k → Q x h) → WP k_X7_placeOf [] (RUN GQ (d + 3)) 0 0 (d + 4) Q X 2 [some (pA b), some (pI p), some (pI y), some (pI k), z4, z5] [] h 0 0 := by
  intro n
  induction n with
  | zero =>
    intro k z4 z5 hk hn H
    have q0 := I.qn hp
    have q13 := I.hq.1
    refine WP.of (RUN.mono GQ _) (cuts := [2, 21]) (n := 400) (v_X7_placeOf_2 _ _ _ _ _ _ _ _ _ ?_)
    refine ⟨M.k0, ?_⟩
    try rw [M.r11]
    refine M.ld6 (by omega) (by omega) (fun er => ?_)
    try rw [er]
    clear er
    refine ⟨ir (by omega) (by omega), ir (by omega) (by omega), fun c12 => ?_, fun c12 => ?_⟩
    · exfalso; omega
    · exact H _ rfl
  | succ n ih =>
    intro k z4 z5 hk hn H
    have q0 := I.qn hp
    have q13 := I.hq.1
    refine WP.of (RUN.mono GQ _) (cuts := [2, 21]) (n := 400) (v_X7_placeOf_2 _ _ _ _ _ _ _ _ _ ?_)
    refine ⟨M.k0, ?_⟩
    try rw [M.r11]
    refine M.ld6 (by omega) (by omega) (fun er => ?_)
    try rw [er]
    clear er
    refine ⟨ir (by omega) (by omega), ir (by omega) (by omega), fun c12 => ?_, fun c12 => ?_⟩
    · refine L_X7_placeOf_21 M I hK hN hp hx (by omega) ((s (115 + p)).toNat) _ _ (by omega) (by omega) (by omega) ?_
      have e : plcl s p y (n + 1) k = if cntl s p k (s (115 + p)).toNat 0 0 = y then k else plcl s p y n (k + 1) := rfl
      rw [e] at H
      exact ⟨fun q => H _ (by rw [if_pos q]), fun q _ _ => ih _ _ _ (by omega) (by omega) (by rw [if_neg q] at H; exact H)⟩
    · exfalso; omega
theorem S_X7_placeOf {d b : Nat} {h0 h : PH} {D : Nat → Int → Int} {s : Int → Int} {Q : Int → PH → Prop} {X : Nat → PH → Prop} {K P c N : Int} {p y : Int} (M : Md b h0 h D s) (I : HI K P c N s) (hK : 0 ≤ K ∧ K ≤ 8) (hN : N ≤ 2000000000) (hp : 0 ≤ p ∧ p < 6) (hx : InR y) (H : ∀ x : Int, x = (plc s p y) → Q x h) : RUN GQ (d + 4) m_X7_placeOf [pA b, pI p, pI y] h Q X := by
  have q0 := I.qn hp
  have q13 := I.hq.1
  rw [e_X7_placeOf]
  refine WP.of (RUN.mono GQ _) (cuts := [2, 21]) (n := 400) (v_X7_placeOf_0 _ _ _ _ _ _ _ _ _ ?_)
  refine L_X7_placeOf_2 M I hK hN hp hx ((s (115 + p)).toNat) _ _ _ (by omega) (by omega) ?_
  exact H
