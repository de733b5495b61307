/-! the class asked: what would be (written by wip/whole/tools/eng.py) -/
section VCS
variable {call : PC} {mc ms fr : Nat} {Q : Int → PH → Prop} {X : Nat → PH → Prop} {K : PK}
set_option maxRecDepth 100000 in
theorem v_X6_idleIn_0 (a0 : Nat) (i1 : Int) (h : PH) (c s : Nat) (H : hk h a0 = 7 ∧ (c + 1 ≤ mc ∧ s + 6 ≤ ms) ∧ call m_X6_needHall [pA a0] h (fun _ h1 =>
 hk h1 a0 = 7 ∧ ((c + 1) + 1 ≤ mc ∧ (s + 6) + 6 ≤ ms) ∧ call m_X6_needProgram [pA a0, pI i1] h1 (fun _ h2 =>
 hk h2 a0 = 7 ∧ call m_X6_ticksUntilIdle [pA a0, pI i1, pI (i1 + 1)] h2 (fun x3 h3 =>
 Q x3 h3) X) X) X) : wpc k_X6_idleIn [] call mc ms fr Q X [] K 400 (pto 0 k_X6_idleIn) [some (pA a0), some (pI i1)] [] h c s :=
  H
set_option maxRecDepth 100000 in
theorem v_X6_calmIn_0 (a0 : Nat) (h : PH) (c s : Nat) (H : hk h a0 = 7 ∧ (c + 1 ≤ mc ∧ s + 6 ≤ ms) ∧ call m_X6_needHall [pA a0] h (fun _ h1 =>
 hk h1 a0 = 7 ∧ hk h1 (hr h1 a0 5) = 6 ∧ hk h1 (hr h1 (hr h1 a0 5) 1) = 3 ∧ hk h1 a0 = 7 ∧ call m_X6_ticksUntilIdle [pA a0, pI 0, pI (hi h1 (hr h1 (hr h1 a0 5) 1) 2)] h1 (fun x2 h2 =>
 Q x2 h2) X) X) : wpc k_X6_calmIn [] call mc ms fr Q X [] K 400 (pto 0 k_X6_calmIn) [some (pA a0)] [] h c s :=
  H
set_option maxRecDepth 100000 in
theorem v_X6_endIn_0 (a0 : Nat) (i1 : Int) (h : PH) (c s : Nat) (H : hk h a0 = 7 ∧ (c + 1 ≤ mc ∧ s + 6 ≤ ms) ∧ call m_X6_needHall [pA a0] h (fun _ h1 =>
 hk h1 a0 = 7 ∧ ((c + 1) + 1 ≤ mc ∧ (s + 6) + 6 ≤ ms) ∧ call m_X6_needSignal [pA a0, pI i1] h1 (fun _ h2 =>
 hk h2 a0 = 7 ∧ call m_X6_ticksUntilEnd [pA a0, pI i1] h2 (fun x3 h3 =>
 Q x3 h3) X) X) X) : wpc k_X6_endIn [] call mc ms fr Q X [] K 400 (pto 0 k_X6_endIn) [some (pA a0), some (pI i1)] [] h c s :=
  H
set_option maxRecDepth 100000 in
theorem v_X6_endOf_0 (a0 : Nat) (i1 : Int) (h : PH) (c s : Nat) (H : hk h a0 = 7 ∧ (c + 1 ≤ mc ∧ s + 6 ≤ ms) ∧ call m_X6_needHall [pA a0] h (fun _ h1 =>
 hk h1 a0 = 7 ∧ ((c + 1) + 1 ≤ mc ∧ (s + 6) + 6 ≤ ms) ∧ call m_X6_needSignal [pA a0, pI i1] h1 (fun _ h2 =>
 hk h2 a0 = 7 ∧ call m_X6_ticksUntilEnd [pA a0, pI i1] h2 (fun x3 h3 =>
 InR x3 ∧ InR ((-1)) ∧ (x3 = ((-1)) →
 Q ((-1)) h3) ∧
(x3 ≠ ((-1)) →
 hk h3 a0 = 7 ∧ hk h3 (hr h3 a0 8) = 1 ∧ Q (hi h3 (hr h3 a0 8) 14) h3)) X) X) X) : wpc k_X6_endOf [] call mc ms fr Q X [] K 400 (pto 0 k_X6_endOf) [some (pA a0), some (pI i1)] [] h c s :=
  H
set_option maxRecDepth 100000 in
theorem v_X6_endsIn_0 (a0 : Nat) (i1 : Int) (i2 : Int) (h : PH) (c s : Nat) (H : hk h a0 = 7 ∧ (c + 1 ≤ mc ∧ s + 6 ≤ ms) ∧ call m_X6_needHall [pA a0] h (fun _ h1 =>
 InR i1 ∧ (i1 < 0 →
 ((c + 1) + 1 ≤ mc ∧ (s + 6) + 6 ≤ ms) ∧ call m_X6_needArgument [pI 0] h1 (fun _ h2 =>
 InR i2 ∧ (i2 < 0 →
 (((c + 1) + 1) + 1 ≤ mc ∧ ((s + 6) + 6) + 6 ≤ ms) ∧ call m_X6_needArgument [pI 0] h2 (fun _ h3 =>
 hk h3 a0 = 7 ∧ call m_X6_passInSpare [pA a0, pI i2] h3 (fun _ h4 =>
 hk h4 a0 = 7 ∧ hk h4 (hr h4 a0 8) = 1 ∧ call m_X0_endedBy [pA (hr h4 a0 8), pI i1] h4 (fun x5 h5 =>
 hk h5 a0 = 7 ∧ hk h5 (hr h5 a0 6) = 1 ∧ call m_X0_endedBy [pA (hr h5 a0 6), pI i1] h5 (fun x6 h6 =>
 Q (x5 - x6) h6) X) X) X) X) ∧
(0 ≤ i2 →
 InR i2 ∧ InR 200 ∧ (200 < i2 →
 (((c + 1) + 1) + 1 ≤ mc ∧ ((s + 6) + 6) + 6 ≤ ms) ∧ call m_X6_needArgument [pI 0] h2 (fun _ h7 =>
 hk h7 a0 = 7 ∧ call m_X6_passInSpare [pA a0, pI i2] h7 (fun _ h8 =>
 hk h8 a0 = 7 ∧ hk h8 (hr h8 a0 8) = 1 ∧ call m_X0_endedBy [pA (hr h8 a0 8), pI i1] h8 (fun x9 h9 =>
 hk h9 a0 = 7 ∧ hk h9 (hr h9 a0 6) = 1 ∧ call m_X0_endedBy [pA (hr h9 a0 6), pI i1] h9 (fun x10 h10 =>
 Q (x9 - x10) h10) X) X) X) X) ∧
(i2 ≤ 200 →
 (((c + 1) + 1) + 1 ≤ mc ∧ ((s + 6) + 6) + 6 ≤ ms) ∧ call m_X6_needArgument [pI 1] h2 (fun _ h11 =>
 hk h11 a0 = 7 ∧ call m_X6_passInSpare [pA a0, pI i2] h11 (fun _ h12 =>
 hk h12 a0 = 7 ∧ hk h12 (hr h12 a0 8) = 1 ∧ call m_X0_endedBy [pA (hr h12 a0 8), pI i1] h12 (fun x13 h13 =>
 hk h13 a0 = 7 ∧ hk h13 (hr h13 a0 6) = 1 ∧ call m_X0_endedBy [pA (hr h13 a0 6), pI i1] h13 (fun x14 h14 =>
 Q (x13 - x14) h14) X) X) X) X))) X) ∧
(0 ≤ i1 →
 InR i1 ∧ InR 6 ∧ (i1 < 6 →
 ((c + 1) + 1 ≤ mc ∧ (s + 6) + 6 ≤ ms) ∧ call m_X6_needArgument [pI 1] h1 (fun _ h15 =>
 InR i2 ∧ (i2 < 0 →
 (((c + 1) + 1) + 1 ≤ mc ∧ ((s + 6) + 6) + 6 ≤ ms) ∧ call m_X6_needArgument [pI 0] h15 (fun _ h16 =>
 hk h16 a0 = 7 ∧ call m_X6_passInSpare [pA a0, pI i2] h16 (fun _ h17 =>
 hk h17 a0 = 7 ∧ hk h17 (hr h17 a0 8) = 1 ∧ call m_X0_endedBy [pA (hr h17 a0 8), pI i1] h17 (fun x18 h18 =>
 hk h18 a0 = 7 ∧ hk h18 (hr h18 a0 6) = 1 ∧ call m_X0_endedBy [pA (hr h18 a0 6), pI i1] h18 (fun x19 h19 =>
 Q (x18 - x19) h19) X) X) X) X) ∧
(0 ≤ i2 →
 InR i2 ∧ InR 200 ∧ (200 < i2 →
 (((c + 1) + 1) + 1 ≤ mc ∧ ((s + 6) + 6) + 6 ≤ ms) ∧ call m_X6_needArgument [pI 0] h15 (fun _ h20 =>
 hk h20 a0 = 7 ∧ call m_X6_passInSpare [pA a0, pI i2] h20 (fun _ h21 =>
 hk h21 a0 = 7 ∧ hk h21 (hr h21 a0 8) = 1 ∧ call m_X0_endedBy [pA (hr h21 a0 8), pI i1] h21 (fun x22 h22 =>
 hk h22 a0 = 7 ∧ hk h22 (hr h22 a0 6) = 1 ∧ call m_X0_endedBy [pA (hr h22 a0 6), pI i1] h22 (fun x23 h23 =>
 Q (x22 - x23) h23) X) X) X) X) ∧
(i2 ≤ 200 →
 (((c + 1) + 1) + 1 ≤ mc ∧ ((s + 6) + 6) + 6 ≤ ms) ∧ call m_X6_needArgument [pI 1] h15 (fun _ h24 =>
 hk h24 a0 = 7 ∧ call m_X6_passInSpare [pA a0, pI i2] h24 (fun _ h25 =>
 hk h25 a0 = 7 ∧ hk h25 (hr h25 a0 8) = 1 ∧ call m_X0_endedBy [pA (hr h25 a0 8), pI i1] h25 (fun x26 h26 =>
 hk h26 a0 = 7 ∧ hk h26 (hr h26 a0 6) = 1 ∧ call m_X0_endedBy [pA (hr h26 a0 6), pI i1] h26 (fun x27 h27 =>
 Q (x26 - x27) h27) X) X) X) X))) X) ∧
(6 ≤ i1 →
 ((c + 1) + 1 ≤ mc ∧ (s + 6) + 6 ≤ ms) ∧ call m_X6_needArgument [pI 0] h1 (fun _ h28 =>
 InR i2 ∧ (i2 < 0 →
 (((c + 1) + 1) + 1 ≤ mc ∧ ((s + 6) + 6) + 6 ≤ ms) ∧ call m_X6_needArgument [pI 0] h28 (fun _ h29 =>
 hk h29 a0 = 7 ∧ call m_X6_passInSpare [pA a0, pI i2] h29 (fun _ h30 =>
 hk h30 a0 = 7 ∧ hk h30 (hr h30 a0 8) = 1 ∧ call m_X0_endedBy [pA (hr h30 a0 8), pI i1] h30 (fun x31 h31 =>
 hk h31 a0 = 7 ∧ hk h31 (hr h31 a0 6) = 1 ∧ call m_X0_endedBy [pA (hr h31 a0 6), pI i1] h31 (fun x32 h32 =>
 Q (x31 - x32) h32) X) X) X) X) ∧
(0 ≤ i2 →
 InR i2 ∧ InR 200 ∧ (200 < i2 →
 (((c + 1) + 1) + 1 ≤ mc ∧ ((s + 6) + 6) + 6 ≤ ms) ∧ call m_X6_needArgument [pI 0] h28 (fun _ h33 =>
 hk h33 a0 = 7 ∧ call m_X6_passInSpare [pA a0, pI i2] h33 (fun _ h34 =>
 hk h34 a0 = 7 ∧ hk h34 (hr h34 a0 8) = 1 ∧ call m_X0_endedBy [pA (hr h34 a0 8), pI i1] h34 (fun x35 h35 =>
 hk h35 a0 = 7 ∧ hk h35 (hr h35 a0 6) = 1 ∧ call m_X0_endedBy [pA (hr h35 a0 6), pI i1] h35 (fun x36 h36 =>
 Q (x35 - x36) h36) X) X) X) X) ∧
(i2 ≤ 200 →
 (((c + 1) + 1) + 1 ≤ mc ∧ ((s + 6) + 6) + 6 ≤ ms) ∧ call m_X6_needArgument [pI 1] h28 (fun _ h37 =>
 hk h37 a0 = 7 ∧ call m_X6_passInSpare [pA a0, pI i2] h37 (fun _ h38 =>
 hk h38 a0 = 7 ∧ hk h38 (hr h38 a0 8) = 1 ∧ call m_X0_endedBy [pA (hr h38 a0 8), pI i1] h38 (fun x39 h39 =>
 hk h39 a0 = 7 ∧ hk h39 (hr h39 a0 6) = 1 ∧ call m_X0_endedBy [pA (hr h39 a0 6), pI i1] h39 (fun x40 h40 =>
 Q (x39 - x40) h40) X) X) X) X))) X))) X) : wpc k_X6_endsIn [] call mc ms fr Q X [] K 400 (pto 0 k_X6_endsIn) [some (pA a0), some (pI i1), some (pI i2)] [] h c s :=
  H
set_option maxRecDepth 100000 in
theorem v_X6_urgencyIn_0 (a0 : Nat) (i1 : Int) (i2 : Int) (i3 : Int) (h : PH) (c s : Nat) (H : hk h a0 = 7 ∧ (c + 1 ≤ mc ∧ s + 6 ≤ ms) ∧ call m_X6_needHall [pA a0] h (fun _ h1 =>
 hk h1 a0 = 7 ∧ ((c + 1) + 1 ≤ mc ∧ (s + 6) + 6 ≤ ms) ∧ call m_X6_needProgram [pA a0, pI i1] h1 (fun _ h2 =>
 hk h2 a0 = 7 ∧ (((c + 1) + 1) + 1 ≤ mc ∧ ((s + 6) + 6) + 6 ≤ ms) ∧ call m_X6_needKind [pA a0, pI i2] h2 (fun _ h3 =>
 InR i3 ∧ (i3 < 0 →
 ((((c + 1) + 1) + 1) + 1 ≤ mc ∧ (((s + 6) + 6) + 6) + 6 ≤ ms) ∧ call m_X6_needArgument [pI 0] h3 (fun _ h4 =>
 hk h4 a0 = 7 ∧ call m_X6_passInSpare [pA a0, pI i3] h4 (fun _ h5 =>
 hk h5 a0 = 7 ∧ hk h5 (hr h5 a0 8) = 1 ∧ call m_X0_urgencyOf [pA (hr h5 a0 8), pI i1, pI i2] h5 (fun x6 h6 =>
 Q x6 h6) X) X) X) ∧
(0 ≤ i3 →
 InR i3 ∧ InR 200 ∧ (200 < i3 →
 ((((c + 1) + 1) + 1) + 1 ≤ mc ∧ (((s + 6) + 6) + 6) + 6 ≤ ms) ∧ call m_X6_needArgument [pI 0] h3 (fun _ h7 =>
 hk h7 a0 = 7 ∧ call m_X6_passInSpare [pA a0, pI i3] h7 (fun _ h8 =>
 hk h8 a0 = 7 ∧ hk h8 (hr h8 a0 8) = 1 ∧ call m_X0_urgencyOf [pA (hr h8 a0 8), pI i1, pI i2] h8 (fun x9 h9 =>
 Q x9 h9) X) X) X) ∧
(i3 ≤ 200 →
 ((((c + 1) + 1) + 1) + 1 ≤ mc ∧ (((s + 6) + 6) + 6) + 6 ≤ ms) ∧ call m_X6_needArgument [pI 1] h3 (fun _ h10 =>
 hk h10 a0 = 7 ∧ call m_X6_passInSpare [pA a0, pI i3] h10 (fun _ h11 =>
 hk h11 a0 = 7 ∧ hk h11 (hr h11 a0 8) = 1 ∧ call m_X0_urgencyOf [pA (hr h11 a0 8), pI i1, pI i2] h11 (fun x12 h12 =>
 Q x12 h12) X) X) X))) X) X) X) : wpc k_X6_urgencyIn [] call mc ms fr Q X [] K 400 (pto 0 k_X6_urgencyIn) [some (pA a0), some (pI i1), some (pI i2), some (pI i3)] [] h c s :=
  H
set_option maxRecDepth 100000 in
theorem v_X6_sentIn_0 (a0 : Nat) (i1 : Int) (h : PH) (c s : Nat) (H : hk h a0 = 7 ∧ (c + 1 ≤ mc ∧ s + 6 ≤ ms) ∧ call m_X6_needHall [pA a0] h (fun _ h1 =>
 InR i1 ∧ (i1 < 0 →
 ((c + 1) + 1 ≤ mc ∧ (s + 6) + 6 ≤ ms) ∧ call m_X6_needArgument [pI 0] h1 (fun _ h2 =>
 hk h2 a0 = 7 ∧ call m_X6_passInSpare [pA a0, pI i1] h2 (fun _ h3 =>
 hk h3 a0 = 7 ∧ hk h3 (hr h3 a0 8) = 1 ∧ hk h3 a0 = 7 ∧ hk h3 (hr h3 a0 6) = 1 ∧ Q ((hi h3 (hr h3 a0 8) 11) - (hi h3 (hr h3 a0 6) 11)) h3) X) X) ∧
(0 ≤ i1 →
 InR i1 ∧ InR 200 ∧ (200 < i1 →
 ((c + 1) + 1 ≤ mc ∧ (s + 6) + 6 ≤ ms) ∧ call m_X6_needArgument [pI 0] h1 (fun _ h4 =>
 hk h4 a0 = 7 ∧ call m_X6_passInSpare [pA a0, pI i1] h4 (fun _ h5 =>
 hk h5 a0 = 7 ∧ hk h5 (hr h5 a0 8) = 1 ∧ hk h5 a0 = 7 ∧ hk h5 (hr h5 a0 6) = 1 ∧ Q ((hi h5 (hr h5 a0 8) 11) - (hi h5 (hr h5 a0 6) 11)) h5) X) X) ∧
(i1 ≤ 200 →
 ((c + 1) + 1 ≤ mc ∧ (s + 6) + 6 ≤ ms) ∧ call m_X6_needArgument [pI 1] h1 (fun _ h6 =>
 hk h6 a0 = 7 ∧ call m_X6_passInSpare [pA a0, pI i1] h6 (fun _ h7 =>
 hk h7 a0 = 7 ∧ hk h7 (hr h7 a0 8) = 1 ∧ hk h7 a0 = 7 ∧ hk h7 (hr h7 a0 6) = 1 ∧ Q ((hi h7 (hr h7 a0 8) 11) - (hi h7 (hr h7 a0 6) 11)) h7) X) X))) X) : wpc k_X6_sentIn [] call mc ms fr Q X [] K 400 (pto 0 k_X6_sentIn) [some (pA a0), some (pI i1)] [] h c s :=
  H
end VCS
theorem S_X6_idleIn {d : Nat} {h : PH} {B A A2 : Nat} {EP E E2 D : Nat → Int → Int} {s : Int → Int} {N : Int} {Q : Int → PH → Prop} {X : Nat → PH → Prop} {p : Int} (T : FT h B A EP E D s) (W : WD D s N) (T8 : hr h 64 8 = A2) (dj : DJ A2 A B) (M2 : Hx A2 h h E2) (s6 : E2 6 0 = 13) (s9 : E2 9 0 = 4) (hvp : InR p) (H : ∀ (x : Int) h' E', ck (tL D) p 0 (D 0 4 - 1) 2 = 0 → x = til D p 200 0 s → Hx A2 h h' E' → E' 6 0 = 13 → E' 9 0 = 4 → Q x h') (HX : ∀ (e n' : Nat), (ck (tL D) p 0 (D 0 4 - 1) 2 = 1 ∧ e = 0 ∨ ck (tL D) p 0 (D 0 4 - 1) 2 = 2 ∧ e = 2) → hn h ≤ n' → X e (hup h n')) : RUN GQ (d + 8) m_X6_idleIn [pA 64, pI p] h Q X := by
  obtain ⟨w1, w2, w3, wN, ws1, wI⟩ := id W
  have kL := tL_or D
  have M := T.M
  have L := T.L
  have k1 := ck_or (tL D) p 0 (D 0 4 - 1) 2
  rw [e_X6_idleIn]
  refine WP.of (RUN.mono GQ _) (cuts := []) (n := 400) (v_X6_idleIn_0 _ _ _ _ _ ?_)
  refine ⟨(T.sa M2.2.1 dj).k, ?_⟩
  refine ⟨⟨by omega, by omega⟩, ?_⟩
  refine S_X6_needHall T (fun c1 => ?_) (fun c1 n1 l1 => ?_)
  · obtain ⟨I, V, sw⟩ := wI (by omega)
    obtain ⟨R, U⟩ := T.u (by omega)
    obtain ⟨v2, v3, v4, vh⟩ := id V
    have I1 := I.e1
    have I2 := I.e2
    refine ⟨(T.sa M2.2.1 dj).k, ?_⟩
    refine ⟨⟨by omega, by omega⟩, ?_⟩
    refine S_X6_needProgram T U V (by omega) (fun c6 => ?_) (fun c6 n6 l6 => ?_)
    · refine ⟨(T.sa M2.2.1 dj).k, ?_⟩
      refine S_X6_ticksUntilIdle T T8 dj V U M2 s6 s9 I R sw (by omega) (by exact Or.inr ⟨rfl, rfl, by omega, by omega⟩) (fun x14 h14 E14 e14 M14 z614 z914 => ?_)
      subst e14
      exact H _ _ _ (by omega) rfl M14 z614 z914
    · exact HX 2 _ (by omega) l6
  · exact HX 0 _ (by omega) l1
theorem S_X6_calmIn {d : Nat} {h : PH} {B A A2 : Nat} {EP E E2 D : Nat → Int → Int} {s : Int → Int} {N : Int} {Q : Int → PH → Prop} {X : Nat → PH → Prop} (T : FT h B A EP E D s) (W : WD D s N) (T8 : hr h 64 8 = A2) (dj : DJ A2 A B) (M2 : Hx A2 h h E2) (s6 : E2 6 0 = 13) (s9 : E2 9 0 = 4)  (H : ∀ (x : Int) h' E', tL D = 0 → x = til D (-1) 200 0 s → Hx A2 h h' E' → E' 6 0 = 13 → E' 9 0 = 4 → Q x h') (HX : ∀ (e n' : Nat), (tL D = 1 ∧ e = 0) → hn h ≤ n' → X e (hup h n')) : RUN GQ (d + 8) m_X6_calmIn [pA 64] h Q X := by
  obtain ⟨w1, w2, w3, wN, ws1, wI⟩ := id W
  have kL := tL_or D
  have M := T.M
  have L := T.L
  rw [e_X6_calmIn]
  refine WP.of (RUN.mono GQ _) (cuts := []) (n := 400) (v_X6_calmIn_0 _ _ _ _ ?_)
  refine ⟨(T.sa M2.2.1 dj).k, ?_⟩
  refine ⟨⟨by omega, by omega⟩, ?_⟩
  refine S_X6_needHall T (fun c1 => ?_) (fun c1 n1 l1 => ?_)
  · obtain ⟨I, V, sw⟩ := wI (by omega)
    obtain ⟨R, U⟩ := T.u (by omega)
    obtain ⟨v2, v3, v4, vh⟩ := id V
    have I1 := I.e1
    have I2 := I.e2
    refine ⟨(T.sa M2.2.1 dj).k, ?_⟩
    try rw [(T.sa M2.2.1 dj).r5]
    refine ⟨Bx.k (Bx.sa T.L M2.2.1 dj.2.2) 0 (by decide) rfl, ?_⟩
    try rw [show hr h B 1 = B + 4 from Bx.r (Bx.sa T.L M2.2.1 dj.2.2) 0 1 4 (by decide)]
    refine ⟨Bx.k (Bx.sa T.L M2.2.1 dj.2.2) 4 (by decide) rfl, ?_⟩
    try rw [show hi h (B + 4) 2 = _ from Bx.f2 (Bx.sa T.L M2.2.1 dj.2.2) 4 (by decide)]
    rw [U.p]
    refine ⟨(T.sa M2.2.1 dj).k, ?_⟩
    refine S_X6_ticksUntilIdle T T8 dj V U M2 s6 s9 I R sw (by omega) (by exact Or.inl ⟨rfl, rfl, rfl⟩) (fun x16 h16 E16 e16 M16 z616 z916 => ?_)
    subst e16
    exact H _ _ _ (by omega) rfl M16 z616 z916
  · exact HX 0 _ (by omega) l1
theorem S_X6_endIn {d : Nat} {h : PH} {B A A2 : Nat} {EP E E2 D : Nat → Int → Int} {s : Int → Int} {N : Int} {Q : Int → PH → Prop} {X : Nat → PH → Prop} {g : Int} (T : FT h B A EP E D s) (W : WD D s N) (T8 : hr h 64 8 = A2) (dj : DJ A2 A B) (M2 : Hx A2 h h E2) (s6 : E2 6 0 = 13) (s9 : E2 9 0 = 4) (hvg : InR g) (H : ∀ (x : Int) h' E', ck (tL D) g 0 (s 1 - 1) 2 = 0 → x = eiv D s g → Hx A2 h h' E' → E' 6 0 = 13 → E' 9 0 = 4 → Q x h') (HX : ∀ (e n' : Nat), (ck (tL D) g 0 (s 1 - 1) 2 = 1 ∧ e = 0 ∨ ck (tL D) g 0 (s 1 - 1) 2 = 2 ∧ e = 2) → hn h ≤ n' → X e (hup h n')) : RUN GQ (d + 8) m_X6_endIn [pA 64, pI g] h Q X := by
  obtain ⟨w1, w2, w3, wN, ws1, wI⟩ := id W
  have kL := tL_or D
  have M := T.M
  have L := T.L
  have k1 := ck_or (tL D) g 0 (s 1 - 1) 2
  rw [e_X6_endIn]
  refine WP.of (RUN.mono GQ _) (cuts := []) (n := 400) (v_X6_endIn_0 _ _ _ _ _ ?_)
  refine ⟨(T.sa M2.2.1 dj).k, ?_⟩
  refine ⟨⟨by omega, by omega⟩, ?_⟩
  refine S_X6_needHall T (fun c1 => ?_) (fun c1 n1 l1 => ?_)
  · obtain ⟨I, V, sw⟩ := wI (by omega)
    obtain ⟨R, U⟩ := T.u (by omega)
    obtain ⟨v2, v3, v4, vh⟩ := id V
    have I1 := I.e1
    have I2 := I.e2
    refine ⟨(T.sa M2.2.1 dj).k, ?_⟩
    refine ⟨⟨by omega, by omega⟩, ?_⟩
    refine S_X6_needSignal T R (by exact ir (by omega) (by omega)) (by omega) (fun c6 => ?_) (fun c6 n6 l6 => ?_)
    · refine ⟨(T.sa M2.2.1 dj).k, ?_⟩
      refine S_X6_ticksUntilEnd T T8 dj V U M2 s6 s9 I R sw (by omega) (by omega) (fun x11 h11 E11 e11 z11 M11 z611 z911 => ?_)
      subst e11
      exact H _ _ _ (by omega) rfl M11 z611 z911
    · exact HX 2 _ (by omega) l6
  · exact HX 0 _ (by omega) l1
theorem S_X6_endOf {d : Nat} {h : PH} {B A A2 : Nat} {EP E E2 D : Nat → Int → Int} {s : Int → Int} {N : Int} {Q : Int → PH → Prop} {X : Nat → PH → Prop} {g : Int} (T : FT h B A EP E D s) (W : WD D s N) (T8 : hr h 64 8 = A2) (dj : DJ A2 A B) (M2 : Hx A2 h h E2) (s6 : E2 6 0 = 13) (s9 : E2 9 0 = 4) (hvg : InR g) (H : ∀ (x : Int) h' E', ck (tL D) g 0 (s 1 - 1) 2 = 0 → x = eov D s g → Hx A2 h h' E' → E' 6 0 = 13 → E' 9 0 = 4 → Q x h') (HX : ∀ (e n' : Nat), (ck (tL D) g 0 (s 1 - 1) 2 = 1 ∧ e = 0 ∨ ck (tL D) g 0 (s 1 - 1) 2 = 2 ∧ e = 2) → hn h ≤ n' → X e (hup h n')) : RUN GQ (d + 8) m_X6_endOf [pA 64, pI g] h Q X := by
  obtain ⟨w1, w2, w3, wN, ws1, wI⟩ := id W
  have kL := tL_or D
  have M := T.M
  have L := T.L
  have k1 := ck_or (tL D) g 0 (s 1 - 1) 2
  rw [e_X6_endOf]
  refine WP.of (RUN.mono GQ _) (cuts := []) (n := 400) (v_X6_endOf_0 _ _ _ _ _ ?_)
  refine ⟨(T.sa M2.2.1 dj).k, ?_⟩
  refine ⟨⟨by omega, by omega⟩, ?_⟩
  refine S_X6_needHall T (fun c1 => ?_) (fun c1 n1 l1 => ?_)
  · obtain ⟨I, V, sw⟩ := wI (by omega)
    obtain ⟨R, U⟩ := T.u (by omega)
    obtain ⟨v2, v3, v4, vh⟩ := id V
    have I1 := I.e1
    have I2 := I.e2
    refine ⟨(T.sa M2.2.1 dj).k, ?_⟩
    refine ⟨⟨by omega, by omega⟩, ?_⟩
    refine S_X6_needSignal T R (by exact ir (by omega) (by omega)) (by omega) (fun c6 => ?_) (fun c6 n6 l6 => ?_)
    · refine ⟨(T.sa M2.2.1 dj).k, ?_⟩
      refine S_X6_ticksUntilEnd T T8 dj V U M2 s6 s9 I R sw (by omega) (by omega) (fun x11 h11 E11 e11 z11 M11 z611 z911 => ?_)
      subst e11
      have er := eov_rng I V (g := g) (by exact ir (by omega) (by omega))
      have ee := (eiv_eov D s g).1
      refine ⟨(by first | exact (eiv_eov D s g).2 | exact ir (by omega) (by omega)), (by first | exact (eiv_eov D s g).2 | exact ir (by omega) (by omega)), fun c15 => ?_, fun c15 => ?_⟩
      · first
        | exact H _ _ _ (by omega) rfl M11 z611 z911
        | exact H _ _ _ (by omega) (by omega) M11 z611 z911
      · refine ⟨(T.sa M11.2.1 dj).k, ?_⟩
        try rw [(M11.2.1.er 64 8).trans T8]
        refine ⟨Bx.k M11 0 (by decide) rfl, ?_⟩
        try rw [show hi h11 A2 14 = _ from Bx.f14 M11 0 (by decide)]
        try rw [z11 (by omega)]
        first
        | exact H _ _ _ (by omega) rfl M11 z611 z911
        | exact H _ _ _ (by omega) (by omega) M11 z611 z911
    · exact HX 2 _ (by omega) l6
  · exact HX 0 _ (by omega) l1
theorem S_X6_endsIn {d : Nat} {h : PH} {B A A2 : Nat} {EP E E2 D : Nat → Int → Int} {s : Int → Int} {N : Int} {Q : Int → PH → Prop} {X : Nat → PH → Prop} {u m : Int} (T : FT h B A EP E D s) (W : WD D s N) (T8 : hr h 64 8 = A2) (dj : DJ A2 A B) (M2 : Hx A2 h h E2) (s6 : E2 6 0 = 13) (s9 : E2 9 0 = 4) (hvu : InR u) (hvm : InR m) (H : ∀ (x : Int) h' E', ck (ck (tL D) u 0 (5) 2) m 0 (200) 2 = 0 → x = e_tks D m.toNat s (4 + u) - s (4 + u) → Hx A2 h h' E' → E' 6 0 = 13 → E' 9 0 = 4 → Q x h') (HX : ∀ (e n' : Nat), (ck (ck (tL D) u 0 (5) 2) m 0 (200) 2 = 1 ∧ e = 0 ∨ ck (ck (tL D) u 0 (5) 2) m 0 (200) 2 = 2 ∧ e = 1) → hn h ≤ n' → X e (hup h n')) : RUN GQ (d + 8) m_X6_endsIn [pA 64, pI u, pI m] h Q X := by
  obtain ⟨w1, w2, w3, wN, ws1, wI⟩ := id W
  have kL := tL_or D
  have M := T.M
  have L := T.L
  have k1 := ck_or (tL D) u 0 (5) 2
  have k2 := ck_or (ck (tL D) u 0 (5) 2) m 0 (200) 2
  rw [e_X6_endsIn]
  refine WP.of (RUN.mono GQ _) (cuts := []) (n := 400) (v_X6_endsIn_0 _ _ _ _ _ _ ?_)
  refine ⟨(T.sa M2.2.1 dj).k, ?_⟩
  refine ⟨⟨by omega, by omega⟩, ?_⟩
  refine S_X6_needHall T (fun c1 => ?_) (fun c1 n1 l1 => ?_)
  · obtain ⟨I, V, sw⟩ := wI (by omega)
    obtain ⟨R, U⟩ := T.u (by omega)
    obtain ⟨v2, v3, v4, vh⟩ := id V
    have I1 := I.e1
    have I2 := I.e2
    refine ⟨ir (by omega) (by omega), fun c5 => ?_, fun c5 => ?_⟩
    · refine ⟨⟨by omega, by omega⟩, ?_⟩
      refine S_X6_needArgument (by omega) (fun c19 => ?_) (fun c19 n19 l19 => ?_)
      · exact absurd rfl c19
      · exact HX 1 _ (by omega) l19
    · refine ⟨ir (by omega) (by omega), ir (by omega) (by omega), fun c11 => ?_, fun c11 => ?_⟩
      · refine ⟨⟨by omega, by omega⟩, ?_⟩
        refine S_X6_needArgument (by omega) (fun c19 => ?_) (fun c19 n19 l19 => ?_)
        · refine ⟨ir (by omega) (by omega), fun c23 => ?_, fun c23 => ?_⟩
          · refine ⟨⟨by omega, by omega⟩, ?_⟩
            refine S_X6_needArgument (by omega) (fun c38 => ?_) (fun c38 n38 l38 => ?_)
            · exact absurd rfl c38
            · exact HX 1 _ (by omega) l38
          · refine ⟨ir (by omega) (by omega), ir (by omega) (by omega), fun c30 => ?_, fun c30 => ?_⟩
            · refine ⟨⟨by omega, by omega⟩, ?_⟩
              refine S_X6_needArgument (by omega) (fun c38 => ?_) (fun c38 n38 l38 => ?_)
              · exact absurd rfl c38
              · exact HX 1 _ (by omega) l38
            · refine ⟨⟨by omega, by omega⟩, ?_⟩
              refine S_X6_needArgument (by omega) (fun c38 => ?_) (fun c38 n38 l38 => ?_)
              · refine ⟨(T.sa M2.2.1 dj).k, ?_⟩
                refine S_X6_passInSpare T T8 dj V U M2 s6 s9 I R sw (by omega) (by omega) (fun x43 h43 E43 e43 M43 R43 => ?_)
                subst e43
                have J43 := tks_HI V rfl rfl m.toNat _ _ I
                refine ⟨(T.sa M43.2.1 dj).k, ?_⟩
                try rw [(M43.2.1.er 64 8).trans T8]
                refine ⟨Bx.k M43 0 (by decide) rfl, ?_⟩
                refine S_X0_endedBy M43 R43 J43 (by omega) (fun x51 e51 => ?_)
                subst e51
                refine ⟨(T.sa M43.2.1 dj).k, ?_⟩
                try rw [(T.sa M43.2.1 dj).r6]
                refine ⟨Bx.k (Bx.sa T.M M43.2.1 dj.2.1) 0 (by decide) rfl, ?_⟩
                refine S_X0_endedBy (Bx.sa T.M M43.2.1 dj.2.1) R I (by omega) (fun x59 e59 => ?_)
                subst e59
                exact H _ _ _ (by omega) rfl M43 R43.r6 R43.r9
              · exact absurd c38 (by decide)
        · exact absurd c19 (by decide)
      · refine ⟨⟨by omega, by omega⟩, ?_⟩
        refine S_X6_needArgument (by omega) (fun c19 => ?_) (fun c19 n19 l19 => ?_)
        · exact absurd rfl c19
        · exact HX 1 _ (by omega) l19
  · exact HX 0 _ (by omega) l1
theorem S_X6_urgencyIn {d : Nat} {h : PH} {B A A2 : Nat} {EP E E2 D : Nat → Int → Int} {s : Int → Int} {N : Int} {Q : Int → PH → Prop} {X : Nat → PH → Prop} {p k m : Int} (T : FT h B A EP E D s) (W : WD D s N) (T8 : hr h 64 8 = A2) (dj : DJ A2 A B) (M2 : Hx A2 h h E2) (s6 : E2 6 0 = 13) (s9 : E2 9 0 = 4) (hvp : InR p) (hvk : InR k) (hvm : InR m) (H : ∀ (x : Int) h' E', ck (ck (ck (tL D) p 0 (D 0 4 - 1) 2) k 0 (D 0 3 - 1) 2) m 0 (200) 3 = 0 → x = ur (e_tks D m.toNat s) p k → Hx A2 h h' E' → E' 6 0 = 13 → E' 9 0 = 4 → Q x h') (HX : ∀ (e n' : Nat), (ck (ck (ck (tL D) p 0 (D 0 4 - 1) 2) k 0 (D 0 3 - 1) 2) m 0 (200) 3 = 1 ∧ e = 0 ∨ ck (ck (ck (tL D) p 0 (D 0 4 - 1) 2) k 0 (D 0 3 - 1) 2) m 0 (200) 3 = 2 ∧ e = 2 ∨ ck (ck (ck (tL D) p 0 (D 0 4 - 1) 2) k 0 (D 0 3 - 1) 2) m 0 (200) 3 = 3 ∧ e = 1) → hn h ≤ n' → X e (hup h n')) : RUN GQ (d + 8) m_X6_urgencyIn [pA 64, pI p, pI k, pI m] h Q X := by
  obtain ⟨w1, w2, w3, wN, ws1, wI⟩ := id W
  have kL := tL_or D
  have M := T.M
  have L := T.L
  have k1 := ck_or (tL D) p 0 (D 0 4 - 1) 2
  have k2 := ck_or (ck (tL D) p 0 (D 0 4 - 1) 2) k 0 (D 0 3 - 1) 2
  have k3 := ck_or (ck (ck (tL D) p 0 (D 0 4 - 1) 2) k 0 (D 0 3 - 1) 2) m 0 (200) 3
  rw [e_X6_urgencyIn]
  refine WP.of (RUN.mono GQ _) (cuts := []) (n := 400) (v_X6_urgencyIn_0 _ _ _ _ _ _ _ ?_)
  refine ⟨(T.sa M2.2.1 dj).k, ?_⟩
  refine ⟨⟨by omega, by omega⟩, ?_⟩
  refine S_X6_needHall T (fun c1 => ?_) (fun c1 n1 l1 => ?_)
  · obtain ⟨I, V, sw⟩ := wI (by omega)
    obtain ⟨R, U⟩ := T.u (by omega)
    obtain ⟨v2, v3, v4, vh⟩ := id V
    have I1 := I.e1
    have I2 := I.e2
    refine ⟨(T.sa M2.2.1 dj).k, ?_⟩
    refine ⟨⟨by omega, by omega⟩, ?_⟩
    refine S_X6_needProgram T U V (by omega) (fun c6 => ?_) (fun c6 n6 l6 => ?_)
    · refine ⟨(T.sa M2.2.1 dj).k, ?_⟩
      refine ⟨⟨by omega, by omega⟩, ?_⟩
      refine S_X6_needKind T U V (by omega) (fun c11 => ?_) (fun c11 n11 l11 => ?_)
      · refine ⟨ir (by omega) (by omega), fun c15 => ?_, fun c15 => ?_⟩
        · refine ⟨⟨by omega, by omega⟩, ?_⟩
          refine S_X6_needArgument (by omega) (fun c30 => ?_) (fun c30 n30 l30 => ?_)
          · exact absurd rfl c30
          · exact HX 1 _ (by omega) l30
        · refine ⟨ir (by omega) (by omega), ir (by omega) (by omega), fun c22 => ?_, fun c22 => ?_⟩
          · refine ⟨⟨by omega, by omega⟩, ?_⟩
            refine S_X6_needArgument (by omega) (fun c30 => ?_) (fun c30 n30 l30 => ?_)
            · exact absurd rfl c30
            · exact HX 1 _ (by omega) l30
          · refine ⟨⟨by omega, by omega⟩, ?_⟩
            refine S_X6_needArgument (by omega) (fun c30 => ?_) (fun c30 n30 l30 => ?_)
            · refine ⟨(T.sa M2.2.1 dj).k, ?_⟩
              refine S_X6_passInSpare T T8 dj V U M2 s6 s9 I R sw (by omega) (by omega) (fun x35 h35 E35 e35 M35 R35 => ?_)
              subst e35
              have J35 := tks_HI V rfl rfl m.toNat _ _ I
              refine ⟨(T.sa M35.2.1 dj).k, ?_⟩
              try rw [(M35.2.1.er 64 8).trans T8]
              refine ⟨Bx.k M35 0 (by decide) rfl, ?_⟩
              refine S_X0_urgencyOf M35 R35 J35 (by omega) (by omega) (by omega) (fun x44 e44 => ?_)
              subst e44
              exact H _ _ _ (by omega) rfl M35 R35.r6 R35.r9
            · exact absurd c30 (by decide)
      · exact HX 2 _ (by omega) l11
    · exact HX 2 _ (by omega) l6
  · exact HX 0 _ (by omega) l1
theorem S_X6_sentIn {d : Nat} {h : PH} {B A A2 : Nat} {EP E E2 D : Nat → Int → Int} {s : Int → Int} {N : Int} {Q : Int → PH → Prop} {X : Nat → PH → Prop} {m : Int} (T : FT h B A EP E D s) (W : WD D s N) (T8 : hr h 64 8 = A2) (dj : DJ A2 A B) (M2 : Hx A2 h h E2) (s6 : E2 6 0 = 13) (s9 : E2 9 0 = 4) (hvm : InR m) (H : ∀ (x : Int) h' E', ck (tL D) m 0 (200) 2 = 0 → x = e_tks D m.toNat s 1 - s 1 → Hx A2 h h' E' → E' 6 0 = 13 → E' 9 0 = 4 → Q x h') (HX : ∀ (e n' : Nat), (ck (tL D) m 0 (200) 2 = 1 ∧ e = 0 ∨ ck (tL D) m 0 (200) 2 = 2 ∧ e = 1) → hn h ≤ n' → X e (hup h n')) : RUN GQ (d + 8) m_X6_sentIn [pA 64, pI m] h Q X := by
  obtain ⟨w1, w2, w3, wN, ws1, wI⟩ := id W
  have kL := tL_or D
  have M := T.M
  have L := T.L
  have k1 := ck_or (tL D) m 0 (200) 2
  rw [e_X6_sentIn]
  refine WP.of (RUN.mono GQ _) (cuts := []) (n := 400) (v_X6_sentIn_0 _ _ _ _ _ ?_)
  refine ⟨(T.sa M2.2.1 dj).k, ?_⟩
  refine ⟨⟨by omega, by omega⟩, ?_⟩
  refine S_X6_needHall T (fun c1 => ?_) (fun c1 n1 l1 => ?_)
  · obtain ⟨I, V, sw⟩ := wI (by omega)
    obtain ⟨R, U⟩ := T.u (by omega)
    obtain ⟨v2, v3, v4, vh⟩ := id V
    have I1 := I.e1
    have I2 := I.e2
    refine ⟨ir (by omega) (by omega), fun c5 => ?_, fun c5 => ?_⟩
    · refine ⟨⟨by omega, by omega⟩, ?_⟩
      refine S_X6_needArgument (by omega) (fun c20 => ?_) (fun c20 n20 l20 => ?_)
      · exact absurd rfl c20
      · exact HX 1 _ (by omega) l20
    · refine ⟨ir (by omega) (by omega), ir (by omega) (by omega), fun c12 => ?_, fun c12 => ?_⟩
      · refine ⟨⟨by omega, by omega⟩, ?_⟩
        refine S_X6_needArgument (by omega) (fun c20 => ?_) (fun c20 n20 l20 => ?_)
        · exact absurd rfl c20
        · exact HX 1 _ (by omega) l20
      · refine ⟨⟨by omega, by omega⟩, ?_⟩
        refine S_X6_needArgument (by omega) (fun c20 => ?_) (fun c20 n20 l20 => ?_)
        · refine ⟨(T.sa M2.2.1 dj).k, ?_⟩
          refine S_X6_passInSpare T T8 dj V U M2 s6 s9 I R sw (by omega) (by omega) (fun x25 h25 E25 e25 M25 R25 => ?_)
          subst e25
          refine ⟨(T.sa M25.2.1 dj).k, ?_⟩
          try rw [(M25.2.1.er 64 8).trans T8]
          refine ⟨Bx.k M25 0 (by decide) rfl, ?_⟩
          try rw [show hi h25 A2 11 = _ from Bx.f11 M25 0 (by decide)]
          first | rw [R25.fl.2.2.1] | skip
          try rw [R.fl.2.2.1]
          refine ⟨(T.sa M25.2.1 dj).k, ?_⟩
          try rw [(T.sa M25.2.1 dj).r6]
          refine ⟨Bx.k (Bx.sa T.M M25.2.1 dj.2.1) 0 (by decide) rfl, ?_⟩
          try rw [show hi h25 A 11 = _ from Bx.f11 (Bx.sa T.M M25.2.1 dj.2.1) 0 (by decide)]
          first | rw [R25.fl.2.2.1] | skip
          try rw [R.fl.2.2.1]
          exact H _ _ _ (by omega) rfl M25 R25.r6 R25.r9
        · exact absurd c20 (by decide)
  · exact HX 0 _ (by omega) l1
