/-! the class's hall: beginning, acts (written by wip/whole/tools/eng.py) -/
section VCS
variable {call : PC} {mc ms fr : Nat} {Q : Int → PH → Prop} {X : Nat → PH → Prop} {K : PK}
set_option maxRecDepth 100000 in
theorem v_X0_pushHandler_0 (a0 : Nat) (i1 : Int) (i2 : Int) (i3 : Int) (i4 : Int) (z5 : Option PV) (z6 : Option PV) (h : PH) (c s : Nat) (H : hk h a0 = 1 ∧ hk h (hr h a0 6) = 2 ∧ call m_X1_addRow [pA (hr h a0 6), pI i1] h (fun x1 h1 =>
 InR x1 ∧ InR ((-1)) ∧ (x1 = ((-1)) →
 Q 0 h1) ∧
(x1 ≠ ((-1)) →
 K 20 [some (pA a0), some (pI i1), some (pI i2), some (pI i3), some (pI i4), some (pI x1), some (pI 0)] [] h1 c s)) X) : wpc k_X0_pushHandler [] call mc ms fr Q X [20] K 400 (pto 0 k_X0_pushHandler) [some (pA a0), some (pI i1), some (pI i2), some (pI i3), some (pI i4), z5, z6] [] h c s :=
  H
set_option maxRecDepth 100000 in
theorem v_X0_pushHandler_20 (a0 : Nat) (i1 : Int) (i2 : Int) (i3 : Int) (i4 : Int) (i5 : Int) (i6 : Int) (h : PH) (c s : Nat) (H : InR i6 ∧ InR 5 ∧ (i6 < 5 →
 hk h a0 = 1 ∧ hk h a0 = 1 ∧ hk h (hr h a0 5) = 2 ∧ call m_X1_part [pA (hr h a0 5), pI i1, pI i2, pI i6] h (fun x1 h1 =>
 hk h1 (hr h a0 6) = 2 ∧ call m_X1_put [pA (hr h a0 6), pI i1, pI i5, pI i6, pI x1] h1 (fun _ h2 =>
 K 20 [some (pA a0), some (pI i1), some (pI i2), some (pI i3), some (pI i4), some (pI i5), some (pI (i6 + 1))] [] h2 c s) X) X) ∧
(5 ≤ i6 →
 hk h a0 = 1 ∧ hk h (hr h a0 6) = 2 ∧ call m_X1_put [pA (hr h a0 6), pI i1, pI i5, pI 5, pI i3] h (fun _ h3 =>
 hk h3 a0 = 1 ∧ hk h3 (hr h3 a0 6) = 2 ∧ call m_X1_put [pA (hr h3 a0 6), pI i1, pI i5, pI 6, pI i4] h3 (fun _ h4 =>
 hk h4 a0 = 1 ∧ hk h4 (hr h4 a0 5) = 2 ∧ call m_X1_removeRow [pA (hr h4 a0 5), pI i1, pI i2] h4 (fun _ h5 =>
 Q 0 h5) X) X) X)) : wpc k_X0_pushHandler [] call mc ms fr Q X [20] K 400 (pto 20 k_X0_pushHandler) [some (pA a0), some (pI i1), some (pI i2), some (pI i3), some (pI i4), some (pI i5), some (pI i6)] [] h c s :=
  H
set_option maxRecDepth 100000 in
theorem v_X0_doAct_0 (a0 : Nat) (a1 : Nat) (i2 : Int) (i3 : Int) (i4 : Int) (i5 : Int) (z6 : Option PV) (z7 : Option PV) (h : PH) (c s : Nat) (H : hk h a1 = 6 ∧ call m_X5_actPart [pA a1, pI i2, pI i3, pI i4, pI 1] h (fun x1 h1 =>
 hk h1 a1 = 6 ∧ call m_X5_actPart [pA a1, pI i2, pI i3, pI i4, pI 0] h1 (fun x2 h2 =>
 InR x2 ∧ (x2 < 0 ∨ 2 < x2 →
 hk h2 a0 = 1 ∧ call m_X0_dropKind [pA a0, pI i2, pI x1] h2 (fun _ h3 =>
 Q 0 h3) X) ∧
(x2 = 0 →
 hk h2 a1 = 6 ∧ call m_X5_actPart [pA a1, pI i2, pI i3, pI i4, pI 3] h2 (fun x4 h4 =>
 InR (i5 + x4) ∧ InR 1000 ∧ (1000 : Int) ≠ 0 ∧ hk h4 a1 = 6 ∧ call m_X5_actPart [pA a1, pI i2, pI i3, pI i4, pI 2] h4 (fun x5 h5 =>
 hk h5 a0 = 1 ∧ call m_X0_sendSignal [pA a0, pI x5, pI x1, pI i2, pI (Int.tmod (i5 + x4) 1000)] h5 (fun x6 h6 =>
 Q 0 h6) X) X) X) ∧
(x2 = 1 →
 hk h2 a0 = 1 ∧ call m_X0_putMask [pA a0, pI i2, pI x1, pI 1] h2 (fun _ h7 =>
 Q 0 h7) X) ∧
(x2 = 2 →
 hk h2 a0 = 1 ∧ call m_X0_putMask [pA a0, pI i2, pI x1, pI 0] h2 (fun _ h8 =>
 Q 0 h8) X) ∧ True) X) X) : wpc k_X0_doAct [] call mc ms fr Q X [] K 400 (pto 0 k_X0_doAct) [some (pA a0), some (pA a1), some (pI i2), some (pI i3), some (pI i4), some (pI i5), z6, z7] [] h c s :=
  H
set_option maxRecDepth 100000 in
theorem v_X0_beginNext_0 (a0 : Nat) (a1 : Nat) (i2 : Int) (z3 : Option PV) (z4 : Option PV) (z5 : Option PV) (z6 : Option PV) (z7 : Option PV) (h : PH) (c s : Nat) (H : K 2 [some (pA a0), some (pA a1), some (pI i2), some (pI 0), z4, z5, z6, z7] [] h c s) : wpc k_X0_beginNext [] call mc ms fr Q X [2] K 400 (pto 0 k_X0_beginNext) [some (pA a0), some (pA a1), some (pI i2), z3, z4, z5, z6, z7] [] h c s :=
  H
set_option maxRecDepth 100000 in
theorem v_X0_beginNext_2 (a0 : Nat) (a1 : Nat) (i2 : Int) (i3 : Int) (z4 : Option PV) (z5 : Option PV) (z6 : Option PV) (z7 : Option PV) (h : PH) (c s : Nat) (H : InR i3 ∧ InR 12 ∧ (12 < i3 →
 Q 0 h) ∧
(i3 ≤ 12 →
 hk h a0 = 1 ∧ call m_X0_firstUnmasked [pA a0, pI i2] h (fun x1 h1 =>
 InR x1 ∧ InR ((-1)) ∧ (x1 = ((-1)) →
 Q 0 h1) ∧
(x1 ≠ ((-1)) →
 hk h1 a0 = 1 ∧ hk h1 (hr h1 a0 5) = 2 ∧ call m_X1_part [pA (hr h1 a0 5), pI i2, pI x1, pI 1] h1 (fun x2 h2 =>
 hk h2 a0 = 1 ∧ call m_X0_urgencyOf [pA a0, pI i2, pI x2] h2 (fun x3 h3 =>
 hk h3 a0 = 1 ∧ call m_X0_mayBegin [pA a0, pI i2, pI x3] h3 (fun x4 h4 =>
 InR x4 ∧ (x4 = 0 →
 Q 0 h4) ∧
(x4 ≠ 0 →
 hk h4 a1 = 6 ∧ call m_X5_ticksOf [pA a1, pI i2, pI x2] h4 (fun x5 h5 =>
 InR x3 ∧ (0 < x3 →
 InR x5 ∧ (0 < x5 →
 hk h5 a0 = 1 ∧ call m_X0_pushHandler [pA a0, pI i2, pI x1, pI x3, pI x5] h5 (fun _ h6 =>
 Q 0 h6) X) ∧
(x5 ≤ 0 →
 hk h5 a0 = 1 ∧ InR x3 ∧ (x3 = 0 →
 hk h5 a0 = 1 ∧ call m_X0_endSignal [pA a0, pA (hr h5 a0 5), pI i2, pI x1, pI 1] h5 (fun _ h7 =>
 K 2 [some (pA a0), some (pA a1), some (pI i2), some (pI (i3 + 1)), some (pI x1), some (pI x2), some (pI x3), some (pI x5)] [] h7 c s) X) ∧
(x3 ≠ 0 →
 hk h5 a0 = 1 ∧ call m_X0_endSignal [pA a0, pA (hr h5 a0 5), pI i2, pI x1, pI 4] h5 (fun _ h8 =>
 K 2 [some (pA a0), some (pA a1), some (pI i2), some (pI (i3 + 1)), some (pI x1), some (pI x2), some (pI x3), some (pI x5)] [] h8 c s) X))) ∧
(x3 ≤ 0 →
 hk h5 a0 = 1 ∧ InR x3 ∧ (x3 = 0 →
 hk h5 a0 = 1 ∧ call m_X0_endSignal [pA a0, pA (hr h5 a0 5), pI i2, pI x1, pI 1] h5 (fun _ h9 =>
 K 2 [some (pA a0), some (pA a1), some (pI i2), some (pI (i3 + 1)), some (pI x1), some (pI x2), some (pI x3), some (pI x5)] [] h9 c s) X) ∧
(x3 ≠ 0 →
 hk h5 a0 = 1 ∧ call m_X0_endSignal [pA a0, pA (hr h5 a0 5), pI i2, pI x1, pI 4] h5 (fun _ h10 =>
 K 2 [some (pA a0), some (pA a1), some (pI i2), some (pI (i3 + 1)), some (pI x1), some (pI x2), some (pI x3), some (pI x5)] [] h10 c s) X))) X)) X) X) X)) X)) : wpc k_X0_beginNext [] call mc ms fr Q X [2] K 400 (pto 2 k_X0_beginNext) [some (pA a0), some (pA a1), some (pI i2), some (pI i3), z4, z5, z6, z7] [] h c s :=
  H
end VCS
theorem L_X0_pushHandler_20 {d b : Nat} {h0 : PH} {Q : Int → PH → Prop} {X : Nat → PH → Prop} {p i u t : Int} {tp : Int} (hp : 0 ≤ p ∧ p < 6) (ht0 : 0 ≤ tp ∧ tp < 4) : ∀ (n : Nat) (j : Int) (E : Nat → Int → Int) (h : PH), (Hx b h0 h E) → (0 ≤ j) → (j + n = 5) → (E 6 0 = 13) → (E 9 0 = 4) → (0 ≤ i ∧ i < E 7 p) → (E 7 p ≤ 13) → (∀ (x : Int) h', x = 0 → Hx b h0 h' (c_rm 6 13 (dst (dst (c_cp p i tp n j E) 11 ((p * 4 + tp) * 7 + 5) u) 11 ((p * 4 + tp) * 7 + 6) t) p i) → Q x h') → WP k_X0_pushHandler [] (RUN GQ (d + 1)) 0 0 (d + 2) Q X 20 [some (pA b), some (pI p), some (pI i), some (pI u), some (pI t), some (pI tp), some (pI j)] [] h 0 0 := by
  intro n
  induction n with
  | zero =>
    intro j E h M hj hn0 hR6 hR9 hi7 hs7 H
    refine WP.of (RUN.mono GQ _) (cuts := [20]) (n := 400) (v_X0_pushHandler_20 _ _ _ _ _ _ _ _ _ _ ?_)
    refine ⟨ir (by omega) (by omega), ir (by omega) (by omega), fun c23 => ?_, fun c23 => ?_⟩
    · exfalso; omega
    · refine ⟨Bx.k M 0 (by decide) rfl, ?_⟩
      try rw [show hr h b 6 = b + 9 from Bx.r M 0 6 9 (by decide)]
      refine ⟨Bx.k M 9 (by decide) rfl, ?_⟩
      refine S_X1_put_s M (by exact hR9) (by omega) (by omega) (by omega) (fun x64 h64 e64 M64 => ?_)
      subst e64
      refine ⟨Bx.k M64 0 (by decide) rfl, ?_⟩
      try rw [show hr h64 b 6 = b + 9 from Bx.r M64 0 6 9 (by decide)]
      refine ⟨Bx.k M64 9 (by decide) rfl, ?_⟩
      refine S_X1_put_s M64 (by exact hR9) (by omega) (by omega) (by omega) (fun x78 h78 e78 M78 => ?_)
      subst e78
      refine ⟨Bx.k M78 0 (by decide) rfl, ?_⟩
      try rw [show hr h78 b 5 = b + 6 from Bx.r M78 0 5 6 (by decide)]
      refine ⟨Bx.k M78 6 (by decide) rfl, ?_⟩
      refine S_X1_removeRow_q M78 (by exact hR6) (by omega) (by exact hi7) (by exact hs7) (fun x87 h87 e87 M87 => ?_)
      subst e87
      first | (exfalso; omega) | (exact H _ _ rfl M87)
  | succ n ih =>
    intro j E h M hj hn0 hR6 hR9 hi7 hs7 H
    refine WP.of (RUN.mono GQ _) (cuts := [20]) (n := 400) (v_X0_pushHandler_20 _ _ _ _ _ _ _ _ _ _ ?_)
    refine ⟨ir (by omega) (by omega), ir (by omega) (by omega), fun c23 => ?_, fun c23 => ?_⟩
    · refine ⟨Bx.k M 0 (by decide) rfl, ?_⟩
      try rw [show hr h b 6 = b + 9 from Bx.r M 0 6 9 (by decide)]
      refine ⟨Bx.k M 0 (by decide) rfl, ?_⟩
      try rw [show hr h b 5 = b + 6 from Bx.r M 0 5 6 (by decide)]
      refine ⟨Bx.k M 6 (by decide) rfl, ?_⟩
      refine S_X1_part_q M (by exact hR6) (by omega) (by omega) (by omega) (fun x43 e43 => ?_)
      subst e43
      refine ⟨Bx.k M 9 (by decide) rfl, ?_⟩
      refine S_X1_put_s M (by exact hR9) (by omega) (by omega) (by omega) (fun x46 h46 e46 M46 => ?_)
      subst e46
      refine ih _ _ _ M46 (by omega) (by omega) (by exact hR6) (by exact hR9) (by exact hi7) (by exact hs7) ?_
      exact H
    · exfalso; omega
theorem S_X0_pushHandler {d b : Nat} {h0 h : PH} {E : Nat → Int → Int} {Q : Int → PH → Prop} {X : Nat → PH → Prop} {p i u t : Int} (M : Hx b h0 h E) (hR6 : E 6 0 = 13) (hR9 : E 9 0 = 4) (hp : 0 ≤ p ∧ p < 6) (hi7 : 0 ≤ i ∧ i < E 7 p) (hs7 : E 7 p ≤ 13) (hs : 0 ≤ E 10 p ∧ E 10 p < 4) (H : ∀ (x : Int) h', x = (0) → Hx b h0 h' (c_psh E p i u t) → Q x h') : RUN GQ (d + 2) m_X0_pushHandler [pA b, pI p, pI i, pI u, pI t] h Q X := by
  rw [e_X0_pushHandler]
  refine WP.of (RUN.mono GQ _) (cuts := [20]) (n := 400) (v_X0_pushHandler_0 _ _ _ _ _ _ _ _ _ _ ?_)
  refine ⟨Bx.k M 0 (by decide) rfl, ?_⟩
  try rw [show hr h b 6 = b + 9 from Bx.r M 0 6 9 (by decide)]
  refine ⟨Bx.k M 9 (by decide) rfl, ?_⟩
  refine S_X1_addRow_s M (by exact hR9) (by omega) (by omega) (fun x5 h5 e5 M5 => ?_)
  subst e5
  refine ⟨ir (by omega) (by omega), ir (by omega) (by omega), fun c13 => ?_, fun c13 => ?_⟩
  · first
    | (exfalso; omega)
    | (refine H _ _ ?_ ?_
       · first | rfl | omega
       · exact M5)
  · refine L_X0_pushHandler_20 hp (by omega) (5) _ _ _ M5 (by omega) (by omega) (by exact hR6) (by exact hR9) (by exact hi7) (by exact hs7) ?_
    exact H
theorem S_X0_doAct {d b : Nat} {h0 h : PH} {E : Nat → Int → Int} {Q : Int → PH → Prop} {X : Nat → PH → Prop} {N : Int} {q : Nat} {EP D : Nat → Int → Int} {s : Int → Int} {p k i v : Int} (M : Hx b h0 h E) (R : HR E (D 0 2) (D 0 3) s) (I : HI (D 0 3) (D 0 4) (D 0 2) N s) (V : PIv D) (L : Px q h0 h0 EP) (PR : PRr EP D) (hd0 : q + 10 ≤ b ∨ b + 14 ≤ q) (hN : N ≤ 1999500000) (hp : 0 ≤ p ∧ p < D 0 4) (hkx : 0 ≤ k ∧ k < 8) (hix : 0 ≤ i ∧ i < D 4 (8 * p + k)) (hv : 0 ≤ v ∧ v < 1000) (H : ∀ (x : Int) h' E', x = (0) → Hx b h0 h' E' → HR E' (D 0 2) (D 0 3) (e_does D s p (4 * (4 * (8 * p + k) + i)) v) → Q x h') : RUN GQ (d + 4) m_X0_doAct [pA b, pA q, pI p, pI k, pI i, pI v] h Q X := by
  obtain ⟨v2, v3, v4, vh⟩ := id V
  have hp6 : 0 ≤ p ∧ p < 6 := by omega
  have h48 : 0 ≤ 8 * p + k ∧ 8 * p + k < 48 := by omega
  have h4 := (vh (8 * p + k) h48.1 h48.2).2.1
  obtain ⟨a1, a2, a3, a4, a5⟩ := (vh (8 * p + k) h48.1 h48.2).2.2 i hix.1 hix.2
  have pa : ∀ w, 0 ≤ w → w < 4 → EP 9 (((p * 8 + k) * 4 + i) * 4 + w) = D 5 (4 * (4 * (8 * p + k) + i) + w) := fun w h1 h2 => by rw [show p * 8 + k = 8 * p + k by omega]; exact PR.2.2 _ i w h48.1 h48.2 hix.1 hix.2 h1 h2
  have p0 := pa 0 (by omega) (by omega)
  rw [Int.add_zero (4 * (4 * (8 * p + k) + i))] at p0
  have p1 := pa 1 (by omega) (by omega)
  have p2 := pa 2 (by omega) (by omega)
  have p3 := pa 3 (by omega) (by omega)
  rw [e_X0_doAct]
  refine WP.of (RUN.mono GQ _) (cuts := []) (n := 400) (v_X0_doAct_0 _ _ _ _ _ _ _ _ _ _ _ ?_)
  refine ⟨Bx.k (Bx.at L hd0 M) 0 (by decide) rfl, ?_⟩
  refine S_X5_actPart (Bx.at L hd0 M) (by omega) (by omega) (by omega) (by omega) (fun x6 e6 => ?_)
  subst e6
  rw [p1]
  refine ⟨Bx.k (Bx.at L hd0 M) 0 (by decide) rfl, ?_⟩
  refine S_X5_actPart (Bx.at L hd0 M) (by omega) (by omega) (by omega) (by omega) (fun x17 e17 => ?_)
  subst e17
  rw [p0]
  refine ⟨ir (by omega) (by omega), fun c20 => ?_, fun c20 => ?_, fun c20 => ?_, fun c20 => ?_, trivial⟩
  · refine ⟨Bx.k M 0 (by decide) rfl, ?_⟩
    refine S_X0_dropKind M R I V (by omega) (by omega) (by omega) (fun x114 h114 E114 e114 M114 R114 => ?_)
    subst e114
    first
    | (exfalso; omega)
    | (first
       | exact H _ _ _ rfl M114 (hr_congr R114 (by rw [e_does, if_pos (by omega)]))
       | exact H _ _ _ rfl M114 (hr_congr (hr_msk R114 hp6) (by rw [e_does, if_neg (by omega), if_pos (by omega), R.mk hp6, if_neg (by decide)]))
       | exact H _ _ _ rfl M114 (hr_congr (hr_msk R114 hp6) (by rw [e_does, if_neg (by omega), if_neg (by omega), if_pos (by omega), R.mk hp6, if_pos rfl]))
       | exact H _ _ _ rfl M114 (hr_congr R114 (by rw [e_does, if_neg (by omega), if_neg (by omega), if_neg (by omega)])))
  · obtain ⟨a6, a7⟩ := a5 c20
    have a8 := tmN (x := v + D 5 (4 * (4 * (8 * p + k) + i) + 3)) (y := 1000) (by omega) (by omega)
    refine ⟨Bx.k (Bx.at L hd0 M) 0 (by decide) rfl, ?_⟩
    refine S_X5_actPart (Bx.at L hd0 M) (by omega) (by omega) (by omega) (by omega) (fun x56 e56 => ?_)
    subst e56
    rw [p3]
    refine ⟨ir (by omega) (by omega), ir (by omega) (by omega), (by omega), ?_⟩
    refine ⟨Bx.k (Bx.at L hd0 M) 0 (by decide) rfl, ?_⟩
    refine S_X5_actPart (Bx.at L hd0 M) (by omega) (by omega) (by omega) (by omega) (fun x73 e73 => ?_)
    subst e73
    rw [p2]
    refine ⟨Bx.k M 0 (by decide) rfl, ?_⟩
    refine S_X0_sendSignal M R I V (by omega) (by omega) (by omega) (by omega) (by omega) (fun x81 h81 E81 e81 M81 R81 => ?_)
    subst e81
    first
    | (exfalso; omega)
    | (first
       | exact H _ _ _ rfl M81 (hr_congr R81 (by rw [e_does, if_pos (by omega)]))
       | exact H _ _ _ rfl M81 (hr_congr (hr_msk R81 hp6) (by rw [e_does, if_neg (by omega), if_pos (by omega), R.mk hp6, if_neg (by decide)]))
       | exact H _ _ _ rfl M81 (hr_congr (hr_msk R81 hp6) (by rw [e_does, if_neg (by omega), if_neg (by omega), if_pos (by omega), R.mk hp6, if_pos rfl]))
       | exact H _ _ _ rfl M81 (hr_congr R81 (by rw [e_does, if_neg (by omega), if_neg (by omega), if_neg (by omega)])))
  · refine ⟨Bx.k M 0 (by decide) rfl, ?_⟩
    refine S_X0_putMask M (by omega) (by omega) (fun x93 h93 e93 M93 => ?_)
    subst e93
    first
    | (exfalso; omega)
    | (first
       | exact H _ _ _ rfl M93 (hr_congr R (by rw [e_does, if_pos (by omega)]))
       | exact H _ _ _ rfl M93 (hr_congr (hr_msk R hp6) (by rw [e_does, if_neg (by omega), if_pos (by omega), R.mk hp6, if_neg (by decide)]))
       | exact H _ _ _ rfl M93 (hr_congr (hr_msk R hp6) (by rw [e_does, if_neg (by omega), if_neg (by omega), if_pos (by omega), R.mk hp6, if_pos rfl]))
       | exact H _ _ _ rfl M93 (hr_congr R (by rw [e_does, if_neg (by omega), if_neg (by omega), if_neg (by omega)])))
  · refine ⟨Bx.k M 0 (by decide) rfl, ?_⟩
    refine S_X0_putMask M (by omega) (by omega) (fun x104 h104 e104 M104 => ?_)
    subst e104
    first
    | (exfalso; omega)
    | (first
       | exact H _ _ _ rfl M104 (hr_congr R (by rw [e_does, if_pos (by omega)]))
       | exact H _ _ _ rfl M104 (hr_congr (hr_msk R hp6) (by rw [e_does, if_neg (by omega), if_pos (by omega), R.mk hp6, if_neg (by decide)]))
       | exact H _ _ _ rfl M104 (hr_congr (hr_msk R hp6) (by rw [e_does, if_neg (by omega), if_neg (by omega), if_pos (by omega), R.mk hp6, if_pos rfl]))
       | exact H _ _ _ rfl M104 (hr_congr R (by rw [e_does, if_neg (by omega), if_neg (by omega), if_neg (by omega)])))
theorem L_X0_beginNext_2 {d b : Nat} {h0 : PH} {Q : Int → PH → Prop} {X : Nat → PH → Prop} {q : Nat} {EP D : Nat → Int → Int} {p : Int} (V : PIv D) (L : Px q h0 h0 EP) (PR : PRr EP D) (hd0 : q + 10 ≤ b ∨ b + 14 ≤ q) (hp : 0 ≤ p ∧ p < D 0 4) : ∀ (n : Nat) (l : Int) (z4 z5 z6 z7 : Option PV) (E : Nat → Int → Int) (s : Int → Int) (h : PH) (N : Int), (Hx b h0 h E) → (HR E (D 0 2) (D 0 3) s) → (HI (D 0 3) (D 0 4) (D 0 2) N s) → (0 ≤ l ∧ l + s (115 + p) ≤ 12) → (s (115 + p) < n) → (N + n ≤ 1999600000) → (∀ (x : Int) h' E', x = 0 → Hx b h0 h' E' → HR E' (D 0 2) (D 0 3) (e_bgl D p n s) → Q x h') → WP k_X0_beginNext [] (RUN GQ (d + 3)) 0 0 (d + 4) Q X 2 [some (pA b), some (pA q), some (pI p), some (pI l), z4, z5, z6, z7] [] h 0 0 := by
  intro n
  induction n with
  | zero =>
    intro l z4 z5 z6 z7 E s h N M R I hl0 hn0 hN H
    obtain ⟨v2, v3, v4, vh⟩ := id V
    have hp6 : 0 ≤ p ∧ p < 6 := by omega
    have q0 := I.qn hp6
    exfalso; omega
  | succ n ih =>
    intro l z4 z5 z6 z7 E s h N M R I hl0 hn0 hN H
    obtain ⟨v2, v3, v4, vh⟩ := id V
    have hp6 : 0 ≤ p ∧ p < 6 := by omega
    have q0 := I.qn hp6
    have hy := nxt_rng (s := s) p
    refine WP.of (RUN.mono GQ _) (cuts := [2]) (n := 400) (v_X0_beginNext_2 _ _ _ _ _ _ _ _ _ _ _ ?_)
    refine ⟨ir (by omega) (by omega), ir (by omega) (by omega), fun c5 => ?_, fun c5 => ?_⟩
    · exfalso; omega
    · refine ⟨Bx.k M 0 (by decide) rfl, ?_⟩
      refine S_X0_firstUnmasked M R I v3 (by omega) (fun x10 e10 => ?_)
      subst e10
      refine ⟨ir (by omega) (by omega), ir (by omega) (by omega), fun c18 => ?_, fun c18 => ?_⟩
      · first | (exfalso; omega) | (exact H _ _ _ rfl M (hr_congr R (if_pos c18)))
      · have hx : 0 ≤ nxt s p ∧ nxt s p < s (115 + p) := (nxt_rng p).resolve_left c18
        have qk := I.qe hp6 hx
        unfold QE at qk
        have uu := I.ur hp6 (k := qv s p (nxt s p) 1) ⟨qk.2.1.1, by omega⟩
        have sz := eiq_sz (t := 1) I hp6 hx (by omega)
        have sz4 := eiq_sz (t := 4) I hp6 hx (by omega)
        have h48 := (vh (8 * p + qv s p (nxt s p) 1) (by omega) (by omega)).1
        have y01 := may_01 (s := s) p (ur s p (qv s p (nxt s p) 1))
        have px := (PR.2.1 (8 * p + qv s p (nxt s p) 1) (by omega) (by omega)).1
        refine ⟨Bx.k M 0 (by decide) rfl, ?_⟩
        try rw [show hr h b 5 = b + 6 from Bx.r M 0 5 6 (by decide)]
        refine ⟨Bx.k M 6 (by decide) rfl, ?_⟩
        refine S_X1_part_qR M R I (by omega) (by omega) (by omega) (fun x30 e30 => ?_)
        subst e30
        refine ⟨Bx.k M 0 (by decide) rfl, ?_⟩
        refine S_X0_urgencyOf M R I (by omega) (by omega) (by omega) (fun x39 e39 => ?_)
        subst e39
        refine ⟨Bx.k M 0 (by decide) rfl, ?_⟩
        refine S_X0_mayBegin M R I v3 (by omega) (by omega) (fun x48 e48 => ?_)
        subst e48
        refine ⟨ir (by omega) (by omega), fun c51 => ?_, fun c51 => ?_⟩
        · first | (exfalso; omega) | (exact H _ _ _ rfl M (hr_congr R (by rw [e_bgl, if_neg c18, if_pos (by omega)])))
        · refine ⟨Bx.k (Bx.at L hd0 M) 0 (by decide) rfl, ?_⟩
          refine S_X5_ticksOf (Bx.at L hd0 M) (by omega) (by omega) (fun x59 e59 => ?_)
          subst e59
          rw [show p * 8 + qv s p (nxt s p) 1 = 8 * p + qv s p (nxt s p) 1 by omega, px]
          refine ⟨ir (by omega) (by omega), fun c66 => ?_, fun c66 => ?_⟩
          · refine ⟨ir (by omega) (by omega), fun c71 => ?_, fun c71 => ?_⟩
            · refine ⟨Bx.k M 0 (by decide) rfl, ?_⟩
              refine S_X0_pushHandler M (by exact R.r6) (by exact R.r9) (by omega) (by rw [R.qn hp6]; exact hx) (by rw [R.qn hp6]; omega) (by rw [R.sn hp6]; exact ⟨(I.sn hp6).1, by have := may_sz I hp6 c51; omega⟩) (fun x82 h82 e82 M82 => ?_)
              subst e82
              first | (exfalso; omega) | (exact H _ _ _ rfl M82 (hr_congr (psh_HR R I hp6 hx (may_sz I hp6 c51)) (by rw [e_bgl, if_neg c18, if_neg c51, if_neg (by omega), if_neg (by omega)])))
            · refine ⟨Bx.k M 0 (by decide) rfl, ?_⟩
              try rw [show hr h b 5 = b + 6 from Bx.r M 0 5 6 (by decide)]
              refine ⟨ir (by omega) (by omega), fun c96 => ?_, fun c96 => ?_⟩
              · refine ⟨Bx.k M 0 (by decide) rfl, ?_⟩
                refine S_X0_endSignal_qR M R I (by omega) (by omega) (by omega) (by omega) (fun x104 h104 E104 e104 M104 R104 => ?_)
                subst e104
                have I104 := fun t (ht : 0 ≤ t ∧ t < 6) => eiq_HI (t := t) I v3 v4.1 hp6 hx ht
                refine ih _ _ _ _ _ _ _ _ _ M104 R104 (I104 _ (by omega)) (by first | (rw [sz]; omega) | (rw [sz4]; omega)) (by first | (rw [sz]; omega) | (rw [sz4]; omega)) (by omega) ?_
                first
                | (rw [e_bgl, if_neg c18, if_neg c51, if_pos (by omega)] at H; exact H)
                | (rw [e_bgl, if_neg c18, if_neg c51, if_neg (by omega), if_pos (by omega)] at H; exact H)
              · refine ⟨Bx.k M 0 (by decide) rfl, ?_⟩
                refine S_X0_endSignal_qR M R I (by omega) (by omega) (by omega) (by omega) (fun x104 h104 E104 e104 M104 R104 => ?_)
                subst e104
                have I104 := fun t (ht : 0 ≤ t ∧ t < 6) => eiq_HI (t := t) I v3 v4.1 hp6 hx ht
                refine ih _ _ _ _ _ _ _ _ _ M104 R104 (I104 _ (by omega)) (by first | (rw [sz]; omega) | (rw [sz4]; omega)) (by first | (rw [sz]; omega) | (rw [sz4]; omega)) (by omega) ?_
                first
                | (rw [e_bgl, if_neg c18, if_neg c51, if_pos (by omega)] at H; exact H)
                | (rw [e_bgl, if_neg c18, if_neg c51, if_neg (by omega), if_pos (by omega)] at H; exact H)
          · refine ⟨Bx.k M 0 (by decide) rfl, ?_⟩
            try rw [show hr h b 5 = b + 6 from Bx.r M 0 5 6 (by decide)]
            refine ⟨ir (by omega) (by omega), fun c96 => ?_, fun c96 => ?_⟩
            · refine ⟨Bx.k M 0 (by decide) rfl, ?_⟩
              refine S_X0_endSignal_qR M R I (by omega) (by omega) (by omega) (by omega) (fun x104 h104 E104 e104 M104 R104 => ?_)
              subst e104
              have I104 := fun t (ht : 0 ≤ t ∧ t < 6) => eiq_HI (t := t) I v3 v4.1 hp6 hx ht
              refine ih _ _ _ _ _ _ _ _ _ M104 R104 (I104 _ (by omega)) (by first | (rw [sz]; omega) | (rw [sz4]; omega)) (by first | (rw [sz]; omega) | (rw [sz4]; omega)) (by omega) ?_
              first
              | (rw [e_bgl, if_neg c18, if_neg c51, if_pos (by omega)] at H; exact H)
              | (rw [e_bgl, if_neg c18, if_neg c51, if_neg (by omega), if_pos (by omega)] at H; exact H)
            · refine ⟨Bx.k M 0 (by decide) rfl, ?_⟩
              refine S_X0_endSignal_qR M R I (by omega) (by omega) (by omega) (by omega) (fun x104 h104 E104 e104 M104 R104 => ?_)
              subst e104
              have I104 := fun t (ht : 0 ≤ t ∧ t < 6) => eiq_HI (t := t) I v3 v4.1 hp6 hx ht
              refine ih _ _ _ _ _ _ _ _ _ M104 R104 (I104 _ (by omega)) (by first | (rw [sz]; omega) | (rw [sz4]; omega)) (by first | (rw [sz]; omega) | (rw [sz4]; omega)) (by omega) ?_
              first
              | (rw [e_bgl, if_neg c18, if_neg c51, if_pos (by omega)] at H; exact H)
              | (rw [e_bgl, if_neg c18, if_neg c51, if_neg (by omega), if_pos (by omega)] at H; exact H)
theorem S_X0_beginNext {d b : Nat} {h0 h : PH} {E : Nat → Int → Int} {Q : Int → PH → Prop} {X : Nat → PH → Prop} {N : Int} {q : Nat} {EP D : Nat → Int → Int} {s : Int → Int} {p : Int} (M : Hx b h0 h E) (R : HR E (D 0 2) (D 0 3) s) (I : HI (D 0 3) (D 0 4) (D 0 2) N s) (V : PIv D) (L : Px q h0 h0 EP) (PR : PRr EP D) (hd0 : q + 10 ≤ b ∨ b + 14 ≤ q) (hN : N ≤ 1999500000) (hp : 0 ≤ p ∧ p < D 0 4) (H : ∀ (x : Int) h' E', x = (0) → Hx b h0 h' E' → HR E' (D 0 2) (D 0 3) (e_bg D s p) → Q x h') : RUN GQ (d + 4) m_X0_beginNext [pA b, pA q, pI p] h Q X := by
  obtain ⟨v2, v3, v4, vh⟩ := id V
  have hp6 : 0 ≤ p ∧ p < 6 := by omega
  have q0 := I.qn hp6
  rw [e_X0_beginNext]
  refine WP.of (RUN.mono GQ _) (cuts := [2]) (n := 400) (v_X0_beginNext_0 _ _ _ _ _ _ _ _ _ _ _ ?_)
  refine L_X0_beginNext_2 V L PR hd0 hp ((s (115 + p)).toNat + 1) _ _ _ _ _ _ _ _ _ M R I (by omega) (by omega) (by omega) ?_
  exact H
