/-! the model changes (2) (written by wip/whole/tools/eng.py) -/
section VCS
variable {call : PC} {mc ms fr : Nat} {Q : Int → PH → Prop} {X : Nat → PH → Prop} {K : PK}
set_option maxRecDepth 100000 in
theorem v_X7_undoable_0 (a0 : Nat) (h : PH) (c s : Nat) (H : hk h a0 = 8 ∧ ∀ h1, h1 = hsi h a0 0 0 →
 hk h1 a0 = 8 ∧ Q (hi h1 a0 14) h1) : wpc k_X7_undoable [] call mc ms fr Q X [] K 400 (pto 0 k_X7_undoable) [some (pA a0)] [] h c s :=
  H
set_option maxRecDepth 100000 in
theorem v_X7_parseError_0 (a0 : Nat) (h : PH) (c s : Nat) (H : hk h a0 = 8 ∧ ∀ h1, h1 = hsi h a0 0 0 →
 hk h1 a0 = 8 ∧ Q (hi h1 a0 18) h1) : wpc k_X7_parseError [] call mc ms fr Q X [] K 400 (pto 0 k_X7_parseError) [some (pA a0)] [] h c s :=
  H
set_option maxRecDepth 100000 in
theorem v_X7_errorPosition_0 (a0 : Nat) (h : PH) (c s : Nat) (H : hk h a0 = 8 ∧ ∀ h1, h1 = hsi h a0 0 0 →
 hk h1 a0 = 8 ∧ Q (hi h1 a0 19) h1) : wpc k_X7_errorPosition [] call mc ms fr Q X [] K 400 (pto 0 k_X7_errorPosition) [some (pA a0)] [] h c s :=
  H
set_option maxRecDepth 100000 in
theorem v_X7_buffered_0 (a0 : Nat) (h : PH) (c s : Nat) (H : hk h a0 = 8 ∧ ∀ h1, h1 = hsi h a0 0 0 →
 hk h1 a0 = 8 ∧ Q (hi h1 a0 17) h1) : wpc k_X7_buffered [] call mc ms fr Q X [] K 400 (pto 0 k_X7_buffered) [some (pA a0)] [] h c s :=
  H
set_option maxRecDepth 100000 in
theorem v_X7_thrown_0 (a0 : Nat) (h : PH) (c s : Nat) (H : hk h a0 = 8 ∧ Q (hi h a0 0) h) : wpc k_X7_thrown [] call mc ms fr Q X [] K 400 (pto 0 k_X7_thrown) [some (pA a0)] [] h c s :=
  H
set_option maxRecDepth 100000 in
theorem v_X7_dropsRunning_0 (a0 : Nat) (i1 : Int) (i2 : Int) (z3 : Option PV) (z4 : Option PV) (z5 : Option PV) (h : PH) (c s : Nat) (H : hk h a0 = 8 ∧ call m_X7_onStack [pA a0, pI i1, pI i2, pI 0] h (fun x1 h1 =>
 hk h1 a0 = 8 ∧ call m_X7_onStack [pA a0, pI i1, pI i2, pI 1] h1 (fun x2 h2 =>
 hk h2 a0 = 8 ∧ (hk h2 (hr h2 a0 11) = 20 ∨ hk h2 (hr h2 a0 11) = 26) ∧ (0 ≤ (511 + i1) ∧ (511 + i1) < (hl h2 (hr h2 a0 11) : Int)) ∧ hk h2 (hr h2 a0 11) = 20 ∧ (0 ≤ (511 + i1) ∧ (511 + i1) < (hl h2 (hr h2 a0 11) : Int)) ∧ ∀ h3, h3 = hsi h2 (hr h2 a0 11) (Int.toNat ((511 + i1))) ((hi h2 (hr h2 a0 11) (Int.toNat ((511 + i1)))) - 1) →
 K 45 [some (pA a0), some (pI i1), some (pI i2), some (pI x1), some (pI x2), some (pI (517 + (6 * ((4 * i1) + i2))))] [] h3 c s) X) X) : wpc k_X7_dropsRunning [] call mc ms fr Q X [45] K 400 (pto 0 k_X7_dropsRunning) [some (pA a0), some (pI i1), some (pI i2), z3, z4, z5] [] h c s :=
  H
set_option maxRecDepth 100000 in
theorem v_X7_dropsRunning_45 (a0 : Nat) (i1 : Int) (i2 : Int) (i3 : Int) (i4 : Int) (i5 : Int) (h : PH) (c s : Nat) (H : hk h a0 = 8 ∧ (hk h (hr h a0 11) = 20 ∨ hk h (hr h a0 11) = 26) ∧ (0 ≤ (511 + i1) ∧ (511 + i1) < (hl h (hr h a0 11) : Int)) ∧ InR i5 ∧ InR (517 + (6 * ((4 * i1) + (hi h (hr h a0 11) (Int.toNat ((511 + i1))))))) ∧ (i5 < (517 + (6 * ((4 * i1) + (hi h (hr h a0 11) (Int.toNat ((511 + i1))))))) →
 hk h a0 = 8 ∧ hk h a0 = 8 ∧ (hk h (hr h a0 11) = 20 ∨ hk h (hr h a0 11) = 26) ∧ (0 ≤ (i5 + 6) ∧ (i5 + 6) < (hl h (hr h a0 11) : Int)) ∧ hk h (hr h a0 11) = 20 ∧ (0 ≤ i5 ∧ i5 < (hl h (hr h a0 11) : Int)) ∧ ∀ h1, h1 = hsi h (hr h a0 11) (Int.toNat i5) (hi h (hr h a0 11) (Int.toNat ((i5 + 6)))) →
 K 45 [some (pA a0), some (pI i1), some (pI i2), some (pI i3), some (pI i4), some (pI (i5 + 1))] [] h1 c s) ∧
((517 + (6 * ((4 * i1) + (hi h (hr h a0 11) (Int.toNat ((511 + i1))))))) ≤ i5 →
 hk h a0 = 8 ∧ call m_X7_ends [pA a0, pI i3, pI 5, pI i1, pI i4] h (fun _ h2 =>
 Q 0 h2) X)) : wpc k_X7_dropsRunning [] call mc ms fr Q X [45] K 400 (pto 45 k_X7_dropsRunning) [some (pA a0), some (pI i1), some (pI i2), some (pI i3), some (pI i4), some (pI i5)] [] h c s :=
  H
end VCS
theorem S_X7_undoable {d b : Nat} {h0 h : PH} {D : Nat → Int → Int} {s : Int → Int} {t : Int} {Q : Int → PH → Prop} {X : Nat → PH → Prop} (M : Mt b h0 h D s t)  (H : ∀ (x : Int) h', x = D 0 14 → Mt b h0 h' D s 0 → Q x h') : RUN GQ (d + 1) m_X7_undoable [pA b] h Q X := by
  rw [e_X7_undoable]
  refine WP.of (RUN.mono GQ _) (cuts := []) (n := 400) (v_X7_undoable_0 _ _ _ _ ?_)
  refine M.p0 (fun h2 M2 => ?_)
  refine ⟨M2.k0, ?_⟩
  try rw [M2.f14]
  exact H _ _ rfl M2
theorem S_X7_parseError {d b : Nat} {h0 h : PH} {D : Nat → Int → Int} {s : Int → Int} {t : Int} {Q : Int → PH → Prop} {X : Nat → PH → Prop} (M : Mt b h0 h D s t)  (H : ∀ (x : Int) h', x = D 0 18 → Mt b h0 h' D s 0 → Q x h') : RUN GQ (d + 1) m_X7_parseError [pA b] h Q X := by
  rw [e_X7_parseError]
  refine WP.of (RUN.mono GQ _) (cuts := []) (n := 400) (v_X7_parseError_0 _ _ _ _ ?_)
  refine M.p0 (fun h2 M2 => ?_)
  refine ⟨M2.k0, ?_⟩
  try rw [M2.f18]
  exact H _ _ rfl M2
theorem S_X7_errorPosition {d b : Nat} {h0 h : PH} {D : Nat → Int → Int} {s : Int → Int} {t : Int} {Q : Int → PH → Prop} {X : Nat → PH → Prop} (M : Mt b h0 h D s t)  (H : ∀ (x : Int) h', x = D 0 19 → Mt b h0 h' D s 0 → Q x h') : RUN GQ (d + 1) m_X7_errorPosition [pA b] h Q X := by
  rw [e_X7_errorPosition]
  refine WP.of (RUN.mono GQ _) (cuts := []) (n := 400) (v_X7_errorPosition_0 _ _ _ _ ?_)
  refine M.p0 (fun h2 M2 => ?_)
  refine ⟨M2.k0, ?_⟩
  try rw [M2.f19]
  exact H _ _ rfl M2
theorem S_X7_buffered {d b : Nat} {h0 h : PH} {D : Nat → Int → Int} {s : Int → Int} {t : Int} {Q : Int → PH → Prop} {X : Nat → PH → Prop} (M : Mt b h0 h D s t)  (H : ∀ (x : Int) h', x = D 0 17 → Mt b h0 h' D s 0 → Q x h') : RUN GQ (d + 1) m_X7_buffered [pA b] h Q X := by
  rw [e_X7_buffered]
  refine WP.of (RUN.mono GQ _) (cuts := []) (n := 400) (v_X7_buffered_0 _ _ _ _ ?_)
  refine M.p0 (fun h2 M2 => ?_)
  refine ⟨M2.k0, ?_⟩
  try rw [M2.f17]
  exact H _ _ rfl M2
theorem S_X7_thrown {d b : Nat} {h0 h : PH} {D : Nat → Int → Int} {s : Int → Int} {t : Int} {Q : Int → PH → Prop} {X : Nat → PH → Prop} (M : Mt b h0 h D s t)  (H : ∀ x : Int, x = t → Q x h) : RUN GQ (d + 1) m_X7_thrown [pA b] h Q X := by
  rw [e_X7_thrown]
  refine WP.of (RUN.mono GQ _) (cuts := []) (n := 400) (v_X7_thrown_0 _ _ _ _ ?_)
  refine ⟨M.k0, ?_⟩
  try rw [M.f0]
  exact H _ rfl
theorem L_X7_dropsRunning_45 {d b : Nat} {h0 : PH} {D : Nat → Int → Int} {t : Int} {Q : Int → PH → Prop} {X : Nat → PH → Prop} {p k : Int} {g kd : Int} (hp : 0 ≤ p ∧ p < 6) (hg : InR g) : ∀ (n : Nat) (i : Int) (s : Int → Int) (h : PH), (Mt b h0 h D s t) → (517 ≤ i) → (i + n = 517 + 6 * (4 * p + s (511 + p))) → (i + n ≤ 661) → (0 ≤ s 2 ∧ s 2 ≤ 2000000000) → (InR (s (-1))) → (∀ (x : Int) h', x = 0 → Mt b h0 h' D (e_ends (sfl 6 n i s) g 5 p kd) t → Q x h') → WP k_X7_dropsRunning [] (RUN GQ (d + 2)) 0 0 (d + 3) Q X 45 [some (pA b), some (pI p), some (pI k), some (pI g), some (pI kd), some (pI i)] [] h 0 0 := by
  intro n
  induction n with
  | zero =>
    intro i s h M hi0 hn0 hb hE hw H
    refine WP.of (RUN.mono GQ _) (cuts := [45]) (n := 400) (v_X7_dropsRunning_45 _ _ _ _ _ _ _ _ _ ?_)
    refine ⟨M.k0, ?_⟩
    try rw [M.r11]
    refine M.ld6 (by omega) (by omega) (fun er => ?_)
    try rw [er]
    clear er
    refine ⟨ir (by omega) (by omega), ir (by omega) (by omega), fun c68 => ?_, fun c68 => ?_⟩
    · exfalso; omega
    · refine ⟨M.k0, ?_⟩
      refine S_X7_ends_t M (by omega) (by omega) (by exact hE) (by exact hg) (by exact hw) (fun x100 h100 e100 M100 => ?_)
      subst e100
      exact H _ _ rfl M100
  | succ n ih =>
    intro i s h M hi0 hn0 hb hE hw H
    refine WP.of (RUN.mono GQ _) (cuts := [45]) (n := 400) (v_X7_dropsRunning_45 _ _ _ _ _ _ _ _ _ ?_)
    refine ⟨M.k0, ?_⟩
    try rw [M.r11]
    refine M.ld6 (by omega) (by omega) (fun er => ?_)
    try rw [er]
    clear er
    refine ⟨ir (by omega) (by omega), ir (by omega) (by omega), fun c68 => ?_, fun c68 => ?_⟩
    · refine ⟨M.k0, ?_⟩
      try rw [M.r11]
      refine ⟨M.k0, ?_⟩
      try rw [M.r11]
      refine M.ld6 (by omega) (by omega) (fun er => ?_)
      try rw [er]
      clear er
      refine M.as6 (by omega) (by omega) (fun h87 M87 => ?_)
      refine ih _ _ _ M87 (by omega) (by rw [ups_ne (by omega)]; omega) (by omega) (by rw [ups_ne (by omega)]; exact hE) (by rw [ups_ne (by omega)]; exact hw) ?_
      exact H
    · exfalso; omega
theorem S_X7_dropsRunning {d b : Nat} {h0 h : PH} {D : Nat → Int → Int} {s : Int → Int} {t : Int} {Q : Int → PH → Prop} {X : Nat → PH → Prop} {p k : Int} (M : Mt b h0 h D s t) (hp : 0 ≤ p ∧ p < 6) (hkx : 0 ≤ k ∧ k < s (511 + p)) (hsc : s (511 + p) ≤ 4) (hE : 0 ≤ s 2 ∧ s 2 ≤ 2000000000) (hg : InR (sv s p k 0)) (hw : InR (s (-1))) (H : ∀ (x : Int) h', x = (0) → Mt b h0 h' (D) (e_drn s p k) t → Q x h') : RUN GQ (d + 3) m_X7_dropsRunning [pA b, pI p, pI k] h Q X := by
  rw [e_X7_dropsRunning]
  refine WP.of (RUN.mono GQ _) (cuts := [45]) (n := 400) (v_X7_dropsRunning_0 _ _ _ _ _ _ _ _ _ ?_)
  refine ⟨M.k0, ?_⟩
  refine S_X7_onStack M (by omega) (by omega) (by omega) (fun x4 e4 => ?_)
  subst e4
  refine ⟨M.k0, ?_⟩
  refine S_X7_onStack M (by omega) (by omega) (by omega) (fun x12 e12 => ?_)
  subst e12
  refine ⟨M.k0, ?_⟩
  try rw [M.r11]
  refine M.ld6 (by omega) (by omega) (fun er => ?_)
  try rw [er]
  clear er
  refine M.as6 (by omega) (by omega) (fun h30 M30 => ?_)
  refine L_X7_dropsRunning_45 hp hg ((6 * ((ups s (511 + p) (s (511 + p) - 1)) (511 + p) - k)).toNat) _ _ _ M30 (by omega) (by rw [ups_eq]; omega) (by rw [ups_eq]; omega) (by rw [ups_ne (by omega)]; exact hE) (by rw [ups_ne (by omega)]; exact hw) ?_
  exact H
