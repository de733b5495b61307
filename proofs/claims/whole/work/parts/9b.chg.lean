/-! the model changes (2) (written by wip/whole/tools/eng.py) -/
section VCS
variable {call : PC} {mc ms fr : Nat} {Q : Int → PH → Prop} {X : Nat → PH → Prop} {K : PK}
set_option maxRecDepth 100000 in
theorem v_X7_undoable_0 (a0 : Nat) (h : PH) (c s : Nat) (H : hk h a0 = 8 ∧ ∀ h1, h1 = hsi h a0 0 0 →
 hk h1 a0 = 8 ∧ Q (hi h1 a0 14) h1) : wpc k_X7_undoable [] call mc ms fr Q X [] K 400 (pto 0 k_X7_undoable) [some (pA a0)] [] h c s :=
  H
set_option maxRecDepth 100000 in
theorem v_X7_parseError_0 (a0 : Nat) (h : PH) (c s : Nat) (H : hk h a0 = 8 ∧ ∀ h1, h1 = hsi h a0 0 0 →
 hk h1 a0 = 8 ∧ Q (hi h1 a0 18) h1) : wpc k_X7_parseError [] call mc ms fr Q X [] K 400 (pto 0 k_X7_parseError) [some (pA a0)] [] h c s :=
  H
set_option maxRecDepth 100000 in
theorem v_X7_errorPosition_0 (a0 : Nat) (h : PH) (c s : Nat) (H : hk h a0 = 8 ∧ ∀ h1, h1 = hsi h a0 0 0 →
 hk h1 a0 = 8 ∧ Q (hi h1 a0 19) h1) : wpc k_X7_errorPosition [] call mc ms fr Q X [] K 400 (pto 0 k_X7_errorPosition) [some (pA a0)] [] h c s :=
  H
set_option maxRecDepth 100000 in
theorem v_X7_buffered_0 (a0 : Nat) (h : PH) (c s : Nat) (H : hk h a0 = 8 ∧ ∀ h1, h1 = hsi h a0 0 0 →
 hk h1 a0 = 8 ∧ Q (hi h1 a0 17) h1) : wpc k_X7_buffered [] call mc ms fr Q X [] K 400 (pto 0 k_X7_buffered) [some (pA a0)] [] h c s :=
  H
set_option maxRecDepth 100000 in
theorem v_X7_thrown_0 (a0 : Nat) (h : PH) (c s : Nat) (H : hk h a0 = 8 ∧ Q (hi h a0 0) h) : wpc k_X7_thrown [] call mc ms fr Q X [] K 400 (pto 0 k_X7_thrown) [some (pA a0)] [] h c s :=
  H
set_option maxRecDepth 100000 in
theorem v_X7_dropsRunning_0 (a0 : Nat) (i1 : Int) (i2 : Int) (z3 : Option PV) (z4 : Option PV) (z5 : Option PV) (h : PH) (c s : Nat) (H : hk h a0 = 8 ∧ call m_X7_onStack [pA a0, pI i1, pI i2, pI 0] h (fun x1 h1 =>
 hk h1 a0 = 8 ∧ call m_X7_onStack [pA a0, pI i1, pI i2, pI 1] h1 (fun x2 h2 =>
 hk h2 a0 = 8 ∧ (hk h2 (hr h2 a0 11) = 20 ∨ hk h2 (hr h2 a0 11) = 26) ∧ (0 ≤ (511 + i1) ∧ (511 + i1) < (hl h2 (hr h2 a0 11) : Int)) ∧ hk h2 (hr h2 a0 11) = 20 ∧ (0 ≤ (511 + i1) ∧ (511 + i1) < (hl h2 (hr h2 a0 11) : Int)) ∧ ∀ h3, h3 = hsi h2 (hr h2 a0 11) (Int.toNat ((511 + i1))) ((hi h2 (hr h2 a0 11) (Int.toNat ((511 + i1)))) - 1) →
 K 45 [some (pA a0), some (pI i1), some (pI i2), some (pI x1), some (pI x2), some (pI (517 + (6 * ((4 * i1) + i2))))] [] h3 c s) X) X) : wpc k_X7_dropsRunning [] call mc ms fr Q X [45] K 400 (pto 0 k_X7_dropsRunning) [some (pA a0), some (pI i1), some (pI i2), z3, z4, z5] [] h c s :=
  H
set_option maxRecDepth 100000 in
theorem v_X7_dropsRunning_45 (a0 : Nat) (i1 : Int) (i2 : Int) (i3 : Int) (i4 : Int) (i5 : Int) (h : PH) (c s : Nat) (H : hk h a0 = 8 ∧ (hk h (hr h a0 11) = 20 ∨ hk h (hr h a0 11) = 26) ∧ (0 ≤ (511 + i1) ∧ (511 + i1) < (hl h (hr h a0 11) : Int)) ∧ InR i5 ∧ InR (517 + (6 * ((4 * i1) + (hi h (hr h a0 11) (Int.toNat ((511 + i1))))))) ∧ (i5 < (517 + (6 * ((4 * i1) + (hi h (hr h a0 11) (Int.toNat ((511 + i1))))))) →
 hk h a0 = 8 ∧ hk h a0 = 8 ∧ (hk h (hr h a0 11) = 20 ∨ hk h (hr h a0 11) = 26) ∧ (0 ≤ (i5 + 6) ∧ (i5 + 6) < (hl h (hr h a0 11) : Int)) ∧ hk h (hr h a0 11) = 20 ∧ (0 ≤ i5 ∧ i5 < (hl h (hr h a0 11) : Int)) ∧ ∀ h1, h1 = hsi h (hr h a0 11) (Int.toNat i5) (hi h (hr h a0 11) (Int.toNat ((i5 + 6)))) →
 K 45 [some (pA a0), some (pI i1), some (pI i2), some (pI i3), some (pI i4), some (pI (i5 + 1))] [] h1 c s) ∧
((517 + (6 * ((4 * i1) + (hi h (hr h a0 11) (Int.toNat ((511 + i1))))))) ≤ i5 →
 hk h a0 = 8 ∧ call m_X7_ends [pA a0, pI i3, pI 5, pI i1, pI i4] h (fun _ h2 =>
 Q 0 h2) X)) : wpc k_X7_dropsRunning [] call mc ms fr Q X [45] K 400 (pto 45 k_X7_dropsRunning) [some (pA a0), some (pI i1), some (pI i2), some (pI i3), some (pI i4), some (pI i5)] [] h c s :=
  H
set_option maxRecDepth 100000 in
theorem v_X7_drop_0 (a0 : Nat) (i1 : Int) (z2 : Option PV) (h : PH) (c s : Nat) (H : hk h a0 = 8 ∧ call m_X7_noSignal [pA a0, pI i1] h (fun x1 h1 =>
 InR x1 ∧ (x1 = 0 →
 hk h1 a0 = 8 ∧ call m_X7_keepsAll [pA a0] h1 (fun _ h2 =>
 hk h2 a0 = 8 ∧ call m_X7_placeNow [pA a0, pI i1] h2 (fun x3 h3 =>
 InR x3 ∧ InR ((-1)) ∧ (x3 = ((-1)) →
 Q 2 h3) ∧
(x3 ≠ ((-1)) →
 InR x3 ∧ InR 10 ∧ (x3 < 10 →
 hk h3 a0 = 8 ∧ call m_X7_queuedAt [pA a0, pI x3, pI i1] h3 (fun x4 h4 =>
 hk h4 a0 = 8 ∧ call m_X7_endsInQueue [pA a0, pI x3, pI x4, pI 5] h4 (fun _ h5 =>
 Q 0 h5) X) X) ∧
(10 ≤ x3 →
 hk h3 a0 = 8 ∧ call m_X7_stackedAt [pA a0, pI (x3 - 10), pI i1] h3 (fun x6 h6 =>
 hk h6 a0 = 8 ∧ call m_X7_dropsRunning [pA a0, pI (x3 - 10), pI x6] h6 (fun _ h7 =>
 Q 1 h7) X) X))) X) X) ∧
(x1 ≠ 0 →
 Q 0 h1)) X) : wpc k_X7_drop [] call mc ms fr Q X [] K 400 (pto 0 k_X7_drop) [some (pA a0), some (pI i1), z2] [] h c s :=
  H
set_option maxRecDepth 100000 in
theorem v_X7_refresh_0 (a0 : Nat) (i1 : Int) (z2 : Option PV) (z3 : Option PV) (h : PH) (c s : Nat) (H : hk h a0 = 8 ∧ call m_X7_noProgram [pA a0, pI i1] h (fun x1 h1 =>
 InR x1 ∧ (x1 = 0 →
 hk h1 a0 = 8 ∧ call m_X7_keepsAll [pA a0] h1 (fun _ h2 =>
 K 18 [some (pA a0), some (pI i1), some (pI 0), some (pI 0)] [] h2 c s) X) ∧
(x1 ≠ 0 →
 Q 0 h1)) X) : wpc k_X7_refresh [] call mc ms fr Q X [18] K 400 (pto 0 k_X7_refresh) [some (pA a0), some (pI i1), z2, z3] [] h c s :=
  H
set_option maxRecDepth 100000 in
theorem v_X7_refresh_18 (a0 : Nat) (i1 : Int) (i2 : Int) (i3 : Int) (h : PH) (c s : Nat) (H : hk h a0 = 8 ∧ InR i3 ∧ InR (hi h a0 3) ∧ (i3 < (hi h a0 3) →
 hk h a0 = 8 ∧ call m_X7_tiredOf [pA a0, pI i1, pI i3] h (fun x1 h1 =>
 hk h1 a0 = 8 ∧ hk h1 (hr h1 a0 11) = 20 ∧ (0 ≤ ((37 + (8 * i1)) + i3) ∧ ((37 + (8 * i1)) + i3) < (hl h1 (hr h1 a0 11) : Int)) ∧ ∀ h2, h2 = hsi h1 (hr h1 a0 11) (Int.toNat (((37 + (8 * i1)) + i3))) 0 →
 K 18 [some (pA a0), some (pI i1), some (pI (i2 + x1)), some (pI (i3 + 1))] [] h2 c s) X) ∧
((hi h a0 3) ≤ i3 →
 Q i2 h)) : wpc k_X7_refresh [] call mc ms fr Q X [18] K 400 (pto 18 k_X7_refresh) [some (pA a0), some (pI i1), some (pI i2), some (pI i3)] [] h c s :=
  H
set_option maxRecDepth 100000 in
theorem v_X7_save_0 (a0 : Nat) (i1 : Int) (h : PH) (c s : Nat) (H : hk h a0 = 8 ∧ call m_X7_notLoaded [pA a0] h (fun x1 h1 =>
 InR x1 ∧ (x1 = 0 →
 call m_X7_in [pI i1, pI 0, pI 1] h1 (fun x2 h2 =>
 InR x2 ∧ (x2 = 0 →
 hk h2 a0 = 8 ∧ call m_X7_refuse [pA a0, pI 1, pI 2] h2 (fun x3 h3 =>
 InR x3 ∧ (x3 = 0 →
 hk h3 a0 = 8 ∧ call m_X7_keeps [pA a0, pI (8 + i1)] h3 (fun _ h4 =>
 hk h4 a0 = 8 ∧ hk h4 (hr h4 a0 15) = 22 ∧ (0 ≤ i1 ∧ i1 < (hl h4 (hr h4 a0 15) : Int)) ∧ ((1 : Int) = 0 ∨ (1 : Int) = 1) ∧ ∀ h5, h5 = hsi h4 (hr h4 a0 15) (Int.toNat i1) 1 →
 hk h5 a0 = 8 ∧ (hk h5 (hr h5 a0 11) = 20 ∨ hk h5 (hr h5 a0 11) = 26) ∧ (0 ≤ (0 : Int) ∧ (0 : Int) < (hl h5 (hr h5 a0 11) : Int)) ∧ Q (hi h5 (hr h5 a0 11) (Int.toNat (0 : Int))) h5) X) ∧
(x3 ≠ 0 →
 Q 0 h3)) X) ∧
(x2 ≠ 0 →
 hk h2 a0 = 8 ∧ call m_X7_refuse [pA a0, pI 0, pI 2] h2 (fun x6 h6 =>
 InR x6 ∧ (x6 = 0 →
 hk h6 a0 = 8 ∧ call m_X7_keeps [pA a0, pI (8 + i1)] h6 (fun _ h7 =>
 hk h7 a0 = 8 ∧ hk h7 (hr h7 a0 15) = 22 ∧ (0 ≤ i1 ∧ i1 < (hl h7 (hr h7 a0 15) : Int)) ∧ ((1 : Int) = 0 ∨ (1 : Int) = 1) ∧ ∀ h8, h8 = hsi h7 (hr h7 a0 15) (Int.toNat i1) 1 →
 hk h8 a0 = 8 ∧ (hk h8 (hr h8 a0 11) = 20 ∨ hk h8 (hr h8 a0 11) = 26) ∧ (0 ≤ (0 : Int) ∧ (0 : Int) < (hl h8 (hr h8 a0 11) : Int)) ∧ Q (hi h8 (hr h8 a0 11) (Int.toNat (0 : Int))) h8) X) ∧
(x6 ≠ 0 →
 Q 0 h6)) X)) X) ∧
(x1 ≠ 0 →
 Q 0 h1)) X) : wpc k_X7_save [] call mc ms fr Q X [] K 400 (pto 0 k_X7_save) [some (pA a0), some (pI i1)] [] h c s :=
  H
set_option maxRecDepth 100000 in
theorem v_X7_restore_0 (a0 : Nat) (i1 : Int) (h : PH) (c s : Nat) (H : hk h a0 = 8 ∧ ∀ h1, h1 = hsi h a0 0 0 →
 call m_X7_in [pI i1, pI 0, pI 1] h1 (fun x2 h2 =>
 InR x2 ∧ (x2 = 0 →
 hk h2 a0 = 8 ∧ call m_X7_refuse [pA a0, pI 1, pI 1] h2 (fun x3 h3 =>
 InR x3 ∧ (x3 = 0 →
 hk h3 a0 = 8 ∧ hk h3 (hr h3 a0 15) = 22 ∧ (0 ≤ i1 ∧ i1 < (hl h3 (hr h3 a0 15) : Int)) ∧ InR (hi h3 (hr h3 a0 15) (Int.toNat i1)) ∧ ((hi h3 (hr h3 a0 15) (Int.toNat i1)) = 0 →
 hk h3 a0 = 8 ∧ call m_X7_refuse [pA a0, pI 1, pI 2] h3 (fun x4 h4 =>
 InR x4 ∧ (x4 = 0 →
 hk h4 a0 = 8 ∧ call m_X7_fetches [pA a0, pI (8 + i1)] h4 (fun _ h5 =>
 hk h5 a0 = 8 ∧ ∀ h6, h6 = hsi h5 a0 14 0 →
 hk h6 a0 = 8 ∧ (hk h6 (hr h6 a0 11) = 20 ∨ hk h6 (hr h6 a0 11) = 26) ∧ (0 ≤ (0 : Int) ∧ (0 : Int) < (hl h6 (hr h6 a0 11) : Int)) ∧ Q (hi h6 (hr h6 a0 11) (Int.toNat (0 : Int))) h6) X) ∧
(x4 ≠ 0 →
 Q 0 h4)) X) ∧
((hi h3 (hr h3 a0 15) (Int.toNat i1)) ≠ 0 →
 hk h3 a0 = 8 ∧ call m_X7_refuse [pA a0, pI 0, pI 2] h3 (fun x7 h7 =>
 InR x7 ∧ (x7 = 0 →
 hk h7 a0 = 8 ∧ call m_X7_fetches [pA a0, pI (8 + i1)] h7 (fun _ h8 =>
 hk h8 a0 = 8 ∧ ∀ h9, h9 = hsi h8 a0 14 0 →
 hk h9 a0 = 8 ∧ (hk h9 (hr h9 a0 11) = 20 ∨ hk h9 (hr h9 a0 11) = 26) ∧ (0 ≤ (0 : Int) ∧ (0 : Int) < (hl h9 (hr h9 a0 11) : Int)) ∧ Q (hi h9 (hr h9 a0 11) (Int.toNat (0 : Int))) h9) X) ∧
(x7 ≠ 0 →
 Q 0 h7)) X)) ∧
(x3 ≠ 0 →
 Q 0 h3)) X) ∧
(x2 ≠ 0 →
 hk h2 a0 = 8 ∧ call m_X7_refuse [pA a0, pI 0, pI 1] h2 (fun x10 h10 =>
 InR x10 ∧ (x10 = 0 →
 hk h10 a0 = 8 ∧ hk h10 (hr h10 a0 15) = 22 ∧ (0 ≤ i1 ∧ i1 < (hl h10 (hr h10 a0 15) : Int)) ∧ InR (hi h10 (hr h10 a0 15) (Int.toNat i1)) ∧ ((hi h10 (hr h10 a0 15) (Int.toNat i1)) = 0 →
 hk h10 a0 = 8 ∧ call m_X7_refuse [pA a0, pI 1, pI 2] h10 (fun x11 h11 =>
 InR x11 ∧ (x11 = 0 →
 hk h11 a0 = 8 ∧ call m_X7_fetches [pA a0, pI (8 + i1)] h11 (fun _ h12 =>
 hk h12 a0 = 8 ∧ ∀ h13, h13 = hsi h12 a0 14 0 →
 hk h13 a0 = 8 ∧ (hk h13 (hr h13 a0 11) = 20 ∨ hk h13 (hr h13 a0 11) = 26) ∧ (0 ≤ (0 : Int) ∧ (0 : Int) < (hl h13 (hr h13 a0 11) : Int)) ∧ Q (hi h13 (hr h13 a0 11) (Int.toNat (0 : Int))) h13) X) ∧
(x11 ≠ 0 →
 Q 0 h11)) X) ∧
((hi h10 (hr h10 a0 15) (Int.toNat i1)) ≠ 0 →
 hk h10 a0 = 8 ∧ call m_X7_refuse [pA a0, pI 0, pI 2] h10 (fun x14 h14 =>
 InR x14 ∧ (x14 = 0 →
 hk h14 a0 = 8 ∧ call m_X7_fetches [pA a0, pI (8 + i1)] h14 (fun _ h15 =>
 hk h15 a0 = 8 ∧ ∀ h16, h16 = hsi h15 a0 14 0 →
 hk h16 a0 = 8 ∧ (hk h16 (hr h16 a0 11) = 20 ∨ hk h16 (hr h16 a0 11) = 26) ∧ (0 ≤ (0 : Int) ∧ (0 : Int) < (hl h16 (hr h16 a0 11) : Int)) ∧ Q (hi h16 (hr h16 a0 11) (Int.toNat (0 : Int))) h16) X) ∧
(x14 ≠ 0 →
 Q 0 h14)) X)) ∧
(x10 ≠ 0 →
 Q 0 h10)) X)) X) : wpc k_X7_restore [] call mc ms fr Q X [] K 400 (pto 0 k_X7_restore) [some (pA a0), some (pI i1)] [] h c s :=
  H
end VCS
theorem S_X7_undoable {d b : Nat} {h0 h : PH} {D : Nat → Int → Int} {s : Int → Int} {t : Int} {Q : Int → PH → Prop} {X : Nat → PH → Prop} (M : Mt b h0 h D s t)  (H : ∀ (x : Int) h', x = D 0 14 → Mt b h0 h' D s 0 → Q x h') : RUN GQ (d + 1) m_X7_undoable [pA b] h Q X := by
  rw [e_X7_undoable]
  refine WP.of (RUN.mono GQ _) (cuts := []) (n := 400) (v_X7_undoable_0 _ _ _ _ ?_)
  refine M.p0 (fun h2 M2 => ?_)
  refine ⟨M2.k0, ?_⟩
  try rw [M2.f14]
  exact H _ _ rfl M2
theorem S_X7_parseError {d b : Nat} {h0 h : PH} {D : Nat → Int → Int} {s : Int → Int} {t : Int} {Q : Int → PH → Prop} {X : Nat → PH → Prop} (M : Mt b h0 h D s t)  (H : ∀ (x : Int) h', x = D 0 18 → Mt b h0 h' D s 0 → Q x h') : RUN GQ (d + 1) m_X7_parseError [pA b] h Q X := by
  rw [e_X7_parseError]
  refine WP.of (RUN.mono GQ _) (cuts := []) (n := 400) (v_X7_parseError_0 _ _ _ _ ?_)
  refine M.p0 (fun h2 M2 => ?_)
  refine ⟨M2.k0, ?_⟩
  try rw [M2.f18]
  exact H _ _ rfl M2
theorem S_X7_errorPosition {d b : Nat} {h0 h : PH} {D : Nat → Int → Int} {s : Int → Int} {t : Int} {Q : Int → PH → Prop} {X : Nat → PH → Prop} (M : Mt b h0 h D s t)  (H : ∀ (x : Int) h', x = D 0 19 → Mt b h0 h' D s 0 → Q x h') : RUN GQ (d + 1) m_X7_errorPosition [pA b] h Q X := by
  rw [e_X7_errorPosition]
  refine WP.of (RUN.mono GQ _) (cuts := []) (n := 400) (v_X7_errorPosition_0 _ _ _ _ ?_)
  refine M.p0 (fun h2 M2 => ?_)
  refine ⟨M2.k0, ?_⟩
  try rw [M2.f19]
  exact H _ _ rfl M2
theorem S_X7_buffered {d b : Nat} {h0 h : PH} {D : Nat → Int → Int} {s : Int → Int} {t : Int} {Q : Int → PH → Prop} {X : Nat → PH → Prop} (M : Mt b h0 h D s t)  (H : ∀ (x : Int) h', x = D 0 17 → Mt b h0 h' D s 0 → Q x h') : RUN GQ (d + 1) m_X7_buffered [pA b] h Q X := by
  rw [e_X7_buffered]
  refine WP.of (RUN.mono GQ _) (cuts := []) (n := 400) (v_X7_buffered_0 _ _ _ _ ?_)
  refine M.p0 (fun h2 M2 => ?_)
  refine ⟨M2.k0, ?_⟩
  try rw [M2.f17]
  exact H _ _ rfl M2
theorem S_X7_thrown {d b : Nat} {h0 h : PH} {D : Nat → Int → Int} {s : Int → Int} {t : Int} {Q : Int → PH → Prop} {X : Nat → PH → Prop} (M : Mt b h0 h D s t)  (H : ∀ x : Int, x = t → Q x h) : RUN GQ (d + 1) m_X7_thrown [pA b] h Q X := by
  rw [e_X7_thrown]
  refine WP.of (RUN.mono GQ _) (cuts := []) (n := 400) (v_X7_thrown_0 _ _ _ _ ?_)
  refine ⟨M.k0, ?_⟩
  try rw [M.f0]
  exact H _ rfl
theorem L_X7_dropsRunning_45 {d b : Nat} {h0 : PH} {D : Nat → Int → Int} {t : Int} {Q : Int → PH → Prop} {X : Nat → PH → Prop} {p k : Int} {g kd : Int} (hp : 0 ≤ p ∧ p < 6) (hg : InR g) : ∀ (n : Nat) (i : Int) (s : Int → Int) (h : PH), (Mt b h0 h D s t) → (517 ≤ i) → (i + n = 517 + 6 * (4 * p + s (511 + p))) → (i + n ≤ 661) → (0 ≤ s 2 ∧ s 2 ≤ 2000000000) → (InR (s (-1))) → (∀ (x : Int) h', x = 0 → Mt b h0 h' D (e_ends (sfl 6 n i s) g 5 p kd) t → Q x h') → WP k_X7_dropsRunning [] (RUN GQ (d + 2)) 0 0 (d + 3) Q X 45 [some (pA b), some (pI p), some (pI k), some (pI g), some (pI kd), some (pI i)] [] h 0 0 := by
  intro n
  induction n with
  | zero =>
    intro i s h M hi0 hn0 hb hE hw H
    refine WP.of (RUN.mono GQ _) (cuts := [45]) (n := 400) (v_X7_dropsRunning_45 _ _ _ _ _ _ _ _ _ ?_)
    refine ⟨M.k0, ?_⟩
    try rw [M.r11]
    refine M.ld6 (by omega) (by omega) (fun er => ?_)
    try rw [er]
    clear er
    refine ⟨ir (by omega) (by omega), ir (by omega) (by omega), fun c68 => ?_, fun c68 => ?_⟩
    · exfalso; omega
    · refine ⟨M.k0, ?_⟩
      refine S_X7_ends_t M (by omega) (by omega) (by exact hE) (by exact hg) (by exact hw) (fun x100 h100 e100 M100 => ?_)
      subst e100
      exact H _ _ rfl M100
  | succ n ih =>
    intro i s h M hi0 hn0 hb hE hw H
    refine WP.of (RUN.mono GQ _) (cuts := [45]) (n := 400) (v_X7_dropsRunning_45 _ _ _ _ _ _ _ _ _ ?_)
    refine ⟨M.k0, ?_⟩
    try rw [M.r11]
    refine M.ld6 (by omega) (by omega) (fun er => ?_)
    try rw [er]
    clear er
    refine ⟨ir (by omega) (by omega), ir (by omega) (by omega), fun c68 => ?_, fun c68 => ?_⟩
    · refine ⟨M.k0, ?_⟩
      try rw [M.r11]
      refine ⟨M.k0, ?_⟩
      try rw [M.r11]
      refine M.ld6 (by omega) (by omega) (fun er => ?_)
      try rw [er]
      clear er
      refine M.as6 (by omega) (by omega) (fun h87 M87 => ?_)
      refine ih _ _ _ M87 (by omega) (by rw [ups_ne (by omega)]; omega) (by omega) (by rw [ups_ne (by omega)]; exact hE) (by rw [ups_ne (by omega)]; exact hw) ?_
      exact H
    · exfalso; omega
theorem S_X7_dropsRunning {d b : Nat} {h0 h : PH} {D : Nat → Int → Int} {s : Int → Int} {t : Int} {Q : Int → PH → Prop} {X : Nat → PH → Prop} {p k : Int} (M : Mt b h0 h D s t) (hp : 0 ≤ p ∧ p < 6) (hkx : 0 ≤ k ∧ k < s (511 + p)) (hsc : s (511 + p) ≤ 4) (hE : 0 ≤ s 2 ∧ s 2 ≤ 2000000000) (hg : InR (sv s p k 0)) (hw : InR (s (-1))) (H : ∀ (x : Int) h', x = (0) → Mt b h0 h' (D) (e_drn s p k) t → Q x h') : RUN GQ (d + 3) m_X7_dropsRunning [pA b, pI p, pI k] h Q X := by
  rw [e_X7_dropsRunning]
  refine WP.of (RUN.mono GQ _) (cuts := [45]) (n := 400) (v_X7_dropsRunning_0 _ _ _ _ _ _ _ _ _ ?_)
  refine ⟨M.k0, ?_⟩
  refine S_X7_onStack M (by omega) (by omega) (by omega) (fun x4 e4 => ?_)
  subst e4
  refine ⟨M.k0, ?_⟩
  refine S_X7_onStack M (by omega) (by omega) (by omega) (fun x12 e12 => ?_)
  subst e12
  refine ⟨M.k0, ?_⟩
  try rw [M.r11]
  refine M.ld6 (by omega) (by omega) (fun er => ?_)
  try rw [er]
  clear er
  refine M.as6 (by omega) (by omega) (fun h30 M30 => ?_)
  refine L_X7_dropsRunning_45 hp hg ((6 * ((ups s (511 + p) (s (511 + p) - 1)) (511 + p) - k)).toNat) _ _ _ M30 (by omega) (by rw [ups_eq]; omega) (by rw [ups_eq]; omega) (by rw [ups_ne (by omega)]; exact hE) (by rw [ups_ne (by omega)]; exact hw) ?_
  exact H
theorem S_X7_drop {d b : Nat} {h0 h : PH} {D : Nat → Int → Int} {s : Int → Int} {t : Int} {Q : Int → PH → Prop} {X : Nat → PH → Prop} {N : Int} {g : Int} (M : Mt b h0 h D s t) (W : WD D s N) (hvg : InR g) (hc : 0 ≤ D 0 14 ∧ D 0 14 ≤ 8) (H : ∀ (x : Int) h' D' s', (ck (tL D) g 0 (s 1 - 1) 2 = 0 → x = drpv D s g ∧ D' = kpA D s ∧ s' = drps D s g) → (ck (tL D) g 0 (s 1 - 1) 2 ≠ 0 → D' = D ∧ s' = s) → Mt b h0 h' D' s' (ck (tL D) g 0 (s 1 - 1) 2) → Q x h') : RUN GQ (d + 4) m_X7_drop [pA b, pI g] h Q X := by
  obtain ⟨w1, w2, w3, wN, ws1, wI⟩ := id W
  have kL := tL_or D
  have k1 := ck_or (tL D) g 0 (s 1 - 1) 2
  rw [e_X7_drop]
  refine WP.of (RUN.mono GQ _) (cuts := []) (n := 400) (v_X7_drop_0 _ _ _ _ _ _ ?_)
  refine ⟨M.k0, ?_⟩
  refine S_X7_noSignal M W (by omega) (fun x2 h2 e2 M2 => ?_)
  refine ⟨ir (by omega) (by omega), fun c5 => ?_, fun c5 => ?_⟩
  · obtain ⟨I, V, sw⟩ := wI (by omega)
    refine ⟨M2.k0, ?_⟩
    refine S_X7_keepsAll M2 (by omega) (fun x11 h11 e11 M11 => ?_)
    subst e11
    have q := DEq.kpA D s
    have I2 := HI.eqD q I
    have V2 := V.eq q
    refine ⟨M11.k0, ?_⟩
    refine S_X7_placeNow M11 I2 (by omega) (by omega) (by rw [q.2.2.1]; omega) (fun x16 e16 => ?_)
    rw [q.2.2.1] at e16
    subst e16
    have pr := pnl_spec (s := s) (g := g) (fun p a b => ⟨(I.qn ⟨a, b⟩).1, (I.sn ⟨a, b⟩).1⟩) (D 0 4).toNat 0 (by omega) (by omega)
    generalize hpn : pnl s g (D 0 4).toNat 0 = pl at pr ⊢
    refine ⟨ir (by omega) (by omega), ir (by omega) (by omega), fun c22 => ?_, fun c22 => ?_⟩
    · have N25 := Mt.cast (s' := drps D s g) M11 (by rw [drps, hpn, if_pos c22])
      first
      | exact H _ _ _ _ (fun hT => absurd hT (by omega)) (fun _ => ⟨rfl, rfl⟩) (N25.castT (by omega))
      | (refine H _ _ _ _ (fun _ => ⟨?_, rfl, rfl⟩) (fun hT => absurd (by omega) hT) (N25.castT (by omega))
         first
         | (rw [drpv, hpn, if_pos c22]; done)
         | (rw [drpv, hpn, if_neg c22, if_pos c30]; done)
         | (rw [drpv, hpn, if_neg c22, if_neg (by omega)]))
    · refine ⟨ir (by omega) (by omega), ir (by omega) (by omega), fun c30 => ?_, fun c30 => ?_⟩
      · have f1 := ffi_spec (f := fun i => qv s pl i 0) (g := g) (s (115 + pl)).toNat 0
        have qn := I.qn (p := pl) ⟨by omega, by omega⟩
        have q13 := I.hq.1
        refine ⟨M11.k0, ?_⟩
        refine S_X7_queuedAt M11 I2 (by omega) (by omega) (by omega) (fun x38 e38 => ?_)
        subst e38
        refine ⟨M11.k0, ?_⟩
        refine S_X7_endsInQueue_t M11 I2 V2 (by omega) (by omega) (by omega) (by omega) (fun x42 h42 e42 M42 => ?_)
        subst e42
        have N42 := Mt.cast (s' := drps D s g) M42 (by rw [drps, hpn, if_neg c22, if_pos c30])
        first
        | exact H _ _ _ _ (fun hT => absurd hT (by omega)) (fun _ => ⟨rfl, rfl⟩) (N42.castT (by omega))
        | (refine H _ _ _ _ (fun _ => ⟨?_, rfl, rfl⟩) (fun hT => absurd (by omega) hT) (N42.castT (by omega))
           first
           | (rw [drpv, hpn, if_pos c22]; done)
           | (rw [drpv, hpn, if_neg c22, if_pos c30]; done)
           | (rw [drpv, hpn, if_neg c22, if_neg (by omega)]))
      · have f2 := ffi_spec (f := fun i => sv s (pl - 10) i 0) (g := g) (s (511 + (pl - 10))).toNat 0
        have sn := I.sn (p := pl - 10) ⟨by omega, by omega⟩
        have se := I.se (p := pl - 10) (i := ffi (fun i => sv s (pl - 10) i 0) g (s (511 + (pl - 10))).toNat 0) ⟨by omega, by omega⟩ ⟨by omega, by omega⟩
        unfold SE at se
        have e2 := I.e2
        have e1 := I.e1
        refine ⟨M11.k0, ?_⟩
        refine S_X7_stackedAt M11 I2 (by omega) (by omega) (by omega) (fun x58 e58 => ?_)
        subst e58
        refine ⟨M11.k0, ?_⟩
        refine S_X7_dropsRunning M11 (by omega) (by omega) (by omega) (by omega) (by exact ir (by omega) (by omega)) (by exact I.ho.2.2.2.1) (fun x61 h61 e61 M61 => ?_)
        subst e61
        have N61 := Mt.cast (s' := drps D s g) M61 (by rw [drps, hpn, if_neg c22, if_neg (by omega)])
        first
        | exact H _ _ _ _ (fun hT => absurd hT (by omega)) (fun _ => ⟨rfl, rfl⟩) (N61.castT (by omega))
        | (refine H _ _ _ _ (fun _ => ⟨?_, rfl, rfl⟩) (fun hT => absurd (by omega) hT) (N61.castT (by omega))
           first
           | (rw [drpv, hpn, if_pos c22]; done)
           | (rw [drpv, hpn, if_neg c22, if_pos c30]; done)
           | (rw [drpv, hpn, if_neg c22, if_neg (by omega)]))
  · first
    | exact H _ _ _ _ (fun hT => absurd hT (by omega)) (fun _ => ⟨rfl, rfl⟩) (M2.castT (by omega))
    | (refine H _ _ _ _ (fun _ => ⟨?_, rfl, rfl⟩) (fun hT => absurd (by omega) hT) (M2.castT (by omega))
       first
       | (rw [drpv, hpn, if_pos c22]; done)
       | (rw [drpv, hpn, if_neg c22, if_pos c30]; done)
       | (rw [drpv, hpn, if_neg c22, if_neg (by omega)]))
theorem L_X7_refresh_18 {d b : Nat} {h0 : PH} {D : Nat → Int → Int} {t : Int} {Q : Int → PH → Prop} {X : Nat → PH → Prop} {p : Int} {K : Int} (hp6 : 0 ≤ p ∧ p < 6) (hK : K = D 0 3 ∧ 0 ≤ K ∧ K ≤ 8) : ∀ (n : Nat) (acc k : Int) (s : Int → Int) (h : PH), (Mt b h0 h D s t) → (0 ≤ k) → (k + n = K) → (∀ (x : Int) h', x = rfsum p n k s acc → Mt b h0 h' D (rfs p n k s) t → Q x h') → WP k_X7_refresh [] (RUN GQ (d + 3)) 0 0 (d + 4) Q X 18 [some (pA b), some (pI p), some (pI acc), some (pI k)] [] h 0 0 := by
  intro n
  induction n with
  | zero =>
    intro acc k s h M hk0 hn0 H
    refine WP.of (RUN.mono GQ _) (cuts := [18]) (n := 400) (v_X7_refresh_18 _ _ _ _ _ _ _ ?_)
    refine ⟨M.k0, ?_⟩
    try rw [M.f3]
    refine ⟨ir (by omega) (by omega), ir (by omega) (by omega), fun c23 => ?_, fun c23 => ?_⟩
    · exfalso; omega
    · exact H _ _ rfl M
  | succ n ih =>
    intro acc k s h M hk0 hn0 H
    refine WP.of (RUN.mono GQ _) (cuts := [18]) (n := 400) (v_X7_refresh_18 _ _ _ _ _ _ _ ?_)
    refine ⟨M.k0, ?_⟩
    try rw [M.f3]
    refine ⟨ir (by omega) (by omega), ir (by omega) (by omega), fun c23 => ?_, fun c23 => ?_⟩
    · refine ⟨M.k0, ?_⟩
      refine S_X7_tiredOf M (by omega) (by omega) (fun x30 e30 => ?_)
      subst e30
      refine ⟨M.k0, ?_⟩
      try rw [M.r11]
      refine M.as6 (by omega) (by omega) (fun h49 M49 => ?_)
      refine ih _ _ _ _ M49 (by omega) (by omega) ?_
      exact H
    · exfalso; omega
theorem S_X7_refresh {d b : Nat} {h0 h : PH} {D : Nat → Int → Int} {s : Int → Int} {t : Int} {Q : Int → PH → Prop} {X : Nat → PH → Prop} {N : Int} {p : Int} (M : Mt b h0 h D s t) (W : WD D s N) (hvp : InR p) (hc : 0 ≤ D 0 14 ∧ D 0 14 ≤ 8) (H : ∀ (x : Int) h' D' s', (ck (tL D) p 0 (D 0 4 - 1) 2 = 0 → x = rfsum p (D 0 3).toNat 0 s 0 ∧ D' = kpA D s ∧ s' = rfs p (D 0 3).toNat 0 s) → (ck (tL D) p 0 (D 0 4 - 1) 2 ≠ 0 → D' = D ∧ s' = s) → Mt b h0 h' D' s' (ck (tL D) p 0 (D 0 4 - 1) 2) → Q x h') : RUN GQ (d + 4) m_X7_refresh [pA b, pI p] h Q X := by
  obtain ⟨w1, w2, w3, wN, ws1, wI⟩ := id W
  have kL := tL_or D
  have k1 := ck_or (tL D) p 0 (D 0 4 - 1) 2
  rw [e_X7_refresh]
  refine WP.of (RUN.mono GQ _) (cuts := [18]) (n := 400) (v_X7_refresh_0 _ _ _ _ _ _ _ ?_)
  refine ⟨M.k0, ?_⟩
  refine S_X7_noProgram M W (by omega) (fun x2 h2 e2 M2 => ?_)
  refine ⟨ir (by omega) (by omega), fun c5 => ?_, fun c5 => ?_⟩
  · obtain ⟨I, V, sw⟩ := wI (by omega)
    have q := DEq.kpA D s
    refine ⟨M2.k0, ?_⟩
    refine S_X7_keepsAll M2 (by omega) (fun x11 h11 e11 M11 => ?_)
    subst e11
    have I2 := HI.eqD q I
    have V2 := V.eq q
    refine L_X7_refresh_18 ⟨by omega, by omega⟩ ⟨q.2.1.symm, by omega, by omega⟩ ((D 0 3).toNat) _ _ _ _ M11 (by omega) (by omega) ?_
    refine fun x h' e M => H _ _ _ _ (fun _ => ⟨e, rfl, rfl⟩) (fun hT => absurd (by omega) hT) (M.castT (by omega))
  · first
    | exact H _ _ _ _ (fun hT => absurd hT (by omega)) (fun _ => ⟨rfl, rfl⟩) (M2.castT (by omega))
    | (refine H _ _ _ _ (fun _ => ⟨?_, rfl, rfl⟩) (fun hT => absurd (by omega) hT) (M2.castT (by omega))
       rfl)
theorem S_X7_save {d b : Nat} {h0 h : PH} {D : Nat → Int → Int} {s : Int → Int} {t : Int} {Q : Int → PH → Prop} {X : Nat → PH → Prop} {N : Int} {j : Int} (M : Mt b h0 h D s t) (W : WD D s N) (hvj : InR j) (hc : 0 ≤ D 0 14 ∧ D 0 14 ≤ 8) (H : ∀ (x : Int) h' D' s', (ck (tL D) j 0 (1) 2 = 0 → x = s 0 ∧ D' = (dst (dcp 8 (861 * (8 + j)) s 861 0 D) 9 j 1) ∧ s' = s) → (ck (tL D) j 0 (1) 2 ≠ 0 → D' = D ∧ s' = s) → Mt b h0 h' D' s' (ck (tL D) j 0 (1) 2) → Q x h') : RUN GQ (d + 3) m_X7_save [pA b, pI j] h Q X := by
  obtain ⟨w1, w2, w3, wN, ws1, wI⟩ := id W
  have kL := tL_or D
  have k1 := ck_or (tL D) j 0 (1) 2
  rw [e_X7_save]
  refine WP.of (RUN.mono GQ _) (cuts := []) (n := 400) (v_X7_save_0 _ _ _ _ _ ?_)
  refine ⟨M.k0, ?_⟩
  refine S_X7_notLoaded M W (fun x1 h1 e1 M1 => ?_)
  refine ⟨ir (by omega) (by omega), fun c4 => ?_, fun c4 => ?_⟩
  · refine S_X7_inB (by omega) (by omega) (by omega) (fun x11 e11 => ?_)
    refine ⟨ir (by omega) (by omega), fun c14 => ?_, fun c14 => ?_⟩
    · refine ⟨M1.k0, ?_⟩
      refine S_X7_refuse M1 (by omega) (by omega) (by omega) (fun x23 h23 t23 e23 M23 => ?_)
      refine ⟨ir (by omega) (by omega), fun c26 => ?_, fun c26 => ?_⟩
      · obtain ⟨I, V, sw⟩ := wI (by omega)
        refine ⟨M23.k0, ?_⟩
        refine S_X7_keeps M23 (by omega) (fun x36 h36 e36 M36 => ?_)
        subst e36
        refine ⟨M36.k0, ?_⟩
        try rw [M36.r15]
        refine M36.as9 (by omega) (by omega) (by omega) (fun h45 M45 => ?_)
        refine ⟨M45.k0, ?_⟩
        try rw [M45.r11]
        refine M45.ld6 (by omega) (by omega) (fun er => ?_)
        try rw [er]
        clear er
        refine H _ _ _ _ (fun _ => ⟨?_, rfl, rfl⟩) (fun hT => absurd (by omega) hT) (M45.castT (by omega))
        rfl
      · exact H _ _ _ _ (fun hT => absurd hT (by omega)) (fun _ => ⟨rfl, rfl⟩) (M23.castT (by omega))
    · refine ⟨M1.k0, ?_⟩
      refine S_X7_refuse M1 (by omega) (by omega) (by omega) (fun x23 h23 t23 e23 M23 => ?_)
      refine ⟨ir (by omega) (by omega), fun c26 => ?_, fun c26 => ?_⟩
      · obtain ⟨I, V, sw⟩ := wI (by omega)
        refine ⟨M23.k0, ?_⟩
        refine S_X7_keeps M23 (by omega) (fun x36 h36 e36 M36 => ?_)
        subst e36
        refine ⟨M36.k0, ?_⟩
        try rw [M36.r15]
        refine M36.as9 (by omega) (by omega) (by omega) (fun h45 M45 => ?_)
        refine ⟨M45.k0, ?_⟩
        try rw [M45.r11]
        refine M45.ld6 (by omega) (by omega) (fun er => ?_)
        try rw [er]
        clear er
        refine H _ _ _ _ (fun _ => ⟨?_, rfl, rfl⟩) (fun hT => absurd (by omega) hT) (M45.castT (by omega))
        rfl
      · exact H _ _ _ _ (fun hT => absurd hT (by omega)) (fun _ => ⟨rfl, rfl⟩) (M23.castT (by omega))
  · exact H _ _ _ _ (fun hT => absurd hT (by omega)) (fun _ => ⟨rfl, rfl⟩) (M1.castT (by omega))
theorem S_X7_restore {d b : Nat} {h0 h : PH} {D : Nat → Int → Int} {s : Int → Int} {t : Int} {Q : Int → PH → Prop} {X : Nat → PH → Prop} {j : Int} (M : Mt b h0 h D s t) (hvj : InR j) (hc : 0 ≤ D 0 14 ∧ D 0 14 ≤ 8) (h9 : ∀ i, 0 ≤ i → i < 2 → D 9 i = 0 ∨ D 9 i = 1) (H : ∀ (x : Int) h' D' s', (tRs D j = 0 → x = scp (861 * (8 + j)) (D 8) 861 0 s 0 ∧ D' = (dst D 0 14 0) ∧ s' = (scp (861 * (8 + j)) (D 8) 861 0 s)) → (tRs D j ≠ 0 → D' = D ∧ s' = s) → Mt b h0 h' D' s' (tRs D j) → Q x h') : RUN GQ (d + 2) m_X7_restore [pA b, pI j] h Q X := by
  have k1 := tRs_or D j
  rw [e_X7_restore]
  refine WP.of (RUN.mono GQ _) (cuts := []) (n := 400) (v_X7_restore_0 _ _ _ _ _ ?_)
  refine M.p0 (fun h2 M2 => ?_)
  refine S_X7_inB (by omega) (by omega) (by omega) (fun x9 e9 => ?_)
  refine ⟨ir (by omega) (by omega), fun c12 => ?_, fun c12 => ?_⟩
  · refine ⟨M2.k0, ?_⟩
    refine S_X7_refuse M2 (by omega) (by omega) (by omega) (fun x21 h21 t21 e21 M21 => ?_)
    refine ⟨ir (by omega) (by omega), fun c24 => ?_, fun c24 => ?_⟩
    · have h9j := h9 j (by omega) (by omega)
      refine ⟨M21.k0, ?_⟩
      try rw [M21.r15]
      refine M21.ld9 (by omega) (by omega) (fun er => ?_)
      try rw [er]
      clear er
      refine ⟨ir (by omega) (by omega), fun c34 => ?_, fun c34 => ?_⟩
      · refine ⟨M21.k0, ?_⟩
        refine S_X7_refuse M21 (by omega) (by omega) (by omega) (fun x43 h43 t43 e43 M43 => ?_)
        refine ⟨ir (by omega) (by omega), fun c46 => ?_, fun c46 => ?_⟩
        · refine ⟨M43.k0, ?_⟩
          refine S_X7_fetches M43 (by omega) (fun x56 h56 e56 M56 => ?_)
          subst e56
          refine M56.p14 (fun h61 M61 => ?_)
          refine ⟨M61.k0, ?_⟩
          try rw [M61.r11]
          refine M61.ld6 (by omega) (by omega) (fun er => ?_)
          try rw [er]
          clear er
          refine H _ _ _ _ (fun _ => ⟨?_, rfl, rfl⟩) (fun hT => absurd (by omega) hT) (M61.castT (by omega))
          rfl
        · exact H _ _ _ _ (fun hT => absurd hT (by omega)) (fun _ => ⟨rfl, rfl⟩) (M43.castT (by omega))
      · refine ⟨M21.k0, ?_⟩
        refine S_X7_refuse M21 (by omega) (by omega) (by omega) (fun x43 h43 t43 e43 M43 => ?_)
        refine ⟨ir (by omega) (by omega), fun c46 => ?_, fun c46 => ?_⟩
        · refine ⟨M43.k0, ?_⟩
          refine S_X7_fetches M43 (by omega) (fun x56 h56 e56 M56 => ?_)
          subst e56
          refine M56.p14 (fun h61 M61 => ?_)
          refine ⟨M61.k0, ?_⟩
          try rw [M61.r11]
          refine M61.ld6 (by omega) (by omega) (fun er => ?_)
          try rw [er]
          clear er
          refine H _ _ _ _ (fun _ => ⟨?_, rfl, rfl⟩) (fun hT => absurd (by omega) hT) (M61.castT (by omega))
          rfl
        · exact H _ _ _ _ (fun hT => absurd hT (by omega)) (fun _ => ⟨rfl, rfl⟩) (M43.castT (by omega))
    · exact H _ _ _ _ (fun hT => absurd hT (by omega)) (fun _ => ⟨rfl, rfl⟩) (M21.castT (by omega))
  · refine ⟨M2.k0, ?_⟩
    refine S_X7_refuse M2 (by omega) (by omega) (by omega) (fun x21 h21 t21 e21 M21 => ?_)
    refine ⟨ir (by omega) (by omega), fun c24 => ?_, fun c24 => ?_⟩
    · have h9j := h9 j (by omega) (by omega)
      refine ⟨M21.k0, ?_⟩
      try rw [M21.r15]
      refine M21.ld9 (by omega) (by omega) (fun er => ?_)
      try rw [er]
      clear er
      refine ⟨ir (by omega) (by omega), fun c34 => ?_, fun c34 => ?_⟩
      · refine ⟨M21.k0, ?_⟩
        refine S_X7_refuse M21 (by omega) (by omega) (by omega) (fun x43 h43 t43 e43 M43 => ?_)
        refine ⟨ir (by omega) (by omega), fun c46 => ?_, fun c46 => ?_⟩
        · refine ⟨M43.k0, ?_⟩
          refine S_X7_fetches M43 (by omega) (fun x56 h56 e56 M56 => ?_)
          subst e56
          refine M56.p14 (fun h61 M61 => ?_)
          refine ⟨M61.k0, ?_⟩
          try rw [M61.r11]
          refine M61.ld6 (by omega) (by omega) (fun er => ?_)
          try rw [er]
          clear er
          refine H _ _ _ _ (fun _ => ⟨?_, rfl, rfl⟩) (fun hT => absurd (by omega) hT) (M61.castT (by omega))
          rfl
        · exact H _ _ _ _ (fun hT => absurd hT (by omega)) (fun _ => ⟨rfl, rfl⟩) (M43.castT (by omega))
      · refine ⟨M21.k0, ?_⟩
        refine S_X7_refuse M21 (by omega) (by omega) (by omega) (fun x43 h43 t43 e43 M43 => ?_)
        refine ⟨ir (by omega) (by omega), fun c46 => ?_, fun c46 => ?_⟩
        · refine ⟨M43.k0, ?_⟩
          refine S_X7_fetches M43 (by omega) (fun x56 h56 e56 M56 => ?_)
          subst e56
          refine M56.p14 (fun h61 M61 => ?_)
          refine ⟨M61.k0, ?_⟩
          try rw [M61.r11]
          refine M61.ld6 (by omega) (by omega) (fun er => ?_)
          try rw [er]
          clear er
          refine H _ _ _ _ (fun _ => ⟨?_, rfl, rfl⟩) (fun hT => absurd (by omega) hT) (M61.castT (by omega))
          rfl
        · exact H _ _ _ _ (fun hT => absurd hT (by omega)) (fun _ => ⟨rfl, rfl⟩) (M43.castT (by omega))
    · exact H _ _ _ _ (fun hT => absurd hT (by omega)) (fun _ => ⟨rfl, rfl⟩) (M21.castT (by omega))
