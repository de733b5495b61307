/-! the model reads lines (2) (written by wip/whole/tools/eng.py) -/
section VCS
variable {call : PC} {mc ms fr : Nat} {Q : Int → PH → Prop} {X : Nat → PH → Prop} {K : PK}
set_option maxRecDepth 100000 in
theorem v_X7_programLine_0 (a0 : Nat) (z1 : Option PV) (h : PH) (c s : Nat) (H : hk h a0 = 8 ∧ InR (hi h a0 32) ∧ InR 6 ∧ ((hi h a0 32) = 6 →
 hk h a0 = 8 ∧ call m_X7_failsIf [pA a0, pI 1, pI 4] h (fun _ h1 =>
 hk h1 a0 = 8 ∧ call m_X7_goesOn [pA a0] h1 (fun _ h2 =>
 hk h2 a0 = 8 ∧ InR (hi h2 a0 32) ∧ InR 6 ∧ ((hi h2 a0 32) < 6 →
 hk h2 a0 = 8 ∧ hk h2 a0 = 8 ∧ hk h2 a0 = 8 ∧ hk h2 a0 = 8 ∧ call m_X7_newName [pA a0, pA (hr h2 a0 36), pI (hi h2 a0 32), pI (hi h2 a0 32)] h2 (fun _ h3 =>
 hk h3 a0 = 8 ∧ hk h3 a0 = 8 ∧ InR (hi h3 a0 25) ∧ ((hi h3 a0 25) = 0 →
 call m_X7_flag [pI 1] h3 (fun x4 h4 =>
 hk h4 a0 = 8 ∧ ∀ h5, h5 = hsi h4 a0 32 ((hi h3 a0 32) + x4) →
 Q 0 h5) X) ∧
((hi h3 a0 25) ≠ 0 →
 call m_X7_flag [pI 0] h3 (fun x6 h6 =>
 hk h6 a0 = 8 ∧ ∀ h7, h7 = hsi h6 a0 32 ((hi h3 a0 32) + x6) →
 Q 0 h7) X)) X) ∧
(6 ≤ (hi h2 a0 32) →
 hk h2 a0 = 8 ∧ hk h2 a0 = 8 ∧ hk h2 a0 = 8 ∧ call m_X7_newName [pA a0, pA (hr h2 a0 36), pI (hi h2 a0 32), pI 0] h2 (fun _ h8 =>
 hk h8 a0 = 8 ∧ hk h8 a0 = 8 ∧ InR (hi h8 a0 25) ∧ ((hi h8 a0 25) = 0 →
 call m_X7_flag [pI 1] h8 (fun x9 h9 =>
 hk h9 a0 = 8 ∧ ∀ h10, h10 = hsi h9 a0 32 ((hi h8 a0 32) + x9) →
 Q 0 h10) X) ∧
((hi h8 a0 25) ≠ 0 →
 call m_X7_flag [pI 0] h8 (fun x11 h11 =>
 hk h11 a0 = 8 ∧ ∀ h12, h12 = hsi h11 a0 32 ((hi h8 a0 32) + x11) →
 Q 0 h12) X)) X)) X) X) ∧
((hi h a0 32) ≠ 6 →
 hk h a0 = 8 ∧ call m_X7_failsIf [pA a0, pI 0, pI 4] h (fun _ h13 =>
 hk h13 a0 = 8 ∧ call m_X7_goesOn [pA a0] h13 (fun _ h14 =>
 hk h14 a0 = 8 ∧ InR (hi h14 a0 32) ∧ InR 6 ∧ ((hi h14 a0 32) < 6 →
 hk h14 a0 = 8 ∧ hk h14 a0 = 8 ∧ hk h14 a0 = 8 ∧ hk h14 a0 = 8 ∧ call m_X7_newName [pA a0, pA (hr h14 a0 36), pI (hi h14 a0 32), pI (hi h14 a0 32)] h14 (fun _ h15 =>
 hk h15 a0 = 8 ∧ hk h15 a0 = 8 ∧ InR (hi h15 a0 25) ∧ ((hi h15 a0 25) = 0 →
 call m_X7_flag [pI 1] h15 (fun x16 h16 =>
 hk h16 a0 = 8 ∧ ∀ h17, h17 = hsi h16 a0 32 ((hi h15 a0 32) + x16) →
 Q 0 h17) X) ∧
((hi h15 a0 25) ≠ 0 →
 call m_X7_flag [pI 0] h15 (fun x18 h18 =>
 hk h18 a0 = 8 ∧ ∀ h19, h19 = hsi h18 a0 32 ((hi h15 a0 32) + x18) →
 Q 0 h19) X)) X) ∧
(6 ≤ (hi h14 a0 32) →
 hk h14 a0 = 8 ∧ hk h14 a0 = 8 ∧ hk h14 a0 = 8 ∧ call m_X7_newName [pA a0, pA (hr h14 a0 36), pI (hi h14 a0 32), pI 0] h14 (fun _ h20 =>
 hk h20 a0 = 8 ∧ hk h20 a0 = 8 ∧ InR (hi h20 a0 25) ∧ ((hi h20 a0 25) = 0 →
 call m_X7_flag [pI 1] h20 (fun x21 h21 =>
 hk h21 a0 = 8 ∧ ∀ h22, h22 = hsi h21 a0 32 ((hi h20 a0 32) + x21) →
 Q 0 h22) X) ∧
((hi h20 a0 25) ≠ 0 →
 call m_X7_flag [pI 0] h20 (fun x23 h23 =>
 hk h23 a0 = 8 ∧ ∀ h24, h24 = hsi h23 a0 32 ((hi h20 a0 32) + x23) →
 Q 0 h24) X)) X)) X) X)) : wpc k_X7_programLine [] call mc ms fr Q X [] K 400 (pto 0 k_X7_programLine) [some (pA a0), z1] [] h c s :=
  H
end VCS
theorem S_X7_programLine {d b : Nat} {h0 h : PH} {D : Nat → Int → Int} {s : Int → Int} {t : Int} {Q : Int → PH → Prop} {X : Nat → PH → Prop} (M : Mt b h0 h D s t) (P : PR D) (hK : KP D) (H : ∀ (x : Int) h', x = 0 → Mt b h0 h' (lpD D) s t → Q x h') : RUN GQ (d + 5) m_X7_programLine [pA b] h Q X := by
  have Pw := P.w
  obtain ⟨k1, k2, k3, k4⟩ := id hK
  rw [e_X7_programLine]
  refine WP.of (RUN.mono GQ _) (cuts := []) (n := 400) (v_X7_programLine_0 _ _ _ _ _ ?_)
  refine ⟨M.k0, ?_⟩
  try rw [M.f32]
  refine ⟨ir (by omega) (by omega), ir (by omega) (by omega), fun c7 => ?_, fun c7 => ?_⟩
  · refine ⟨M.k0, ?_⟩
    refine S_X7_failsIf M (by omega) (by exact P.w) (fun x16 h16 e16 M16 => ?_)
    subst e16
    obtain ⟨F, hF⟩ : ∃ Z, Z = l1D D 32 6 := ⟨_, rfl⟩
    have MF := M16.castD (D' := F) (by rw [hF]; unfold l1D fiD; (repeat' split) <;> first | rfl | (exfalso; omega))
    have PF : PR F := by rw [hF]; exact P.l1 _ _
    have PFw := PF.w
    have F3 : F 0 32 = D 0 32 := by rw [hF]; exact l1_0 _ _ _ (by decide)
    have NF : NB (F 12) := by rw [hF, l1_row _ _ _ (by decide)]; assumption
    refine ⟨MF.k0, ?_⟩
    refine S_X7_goesOn MF PF (fun x20 h20 e20 M20 => ?_)
    subst e20
    obtain ⟨G, hG⟩ : ∃ Z, Z = gD F := ⟨_, rfl⟩
    have MG := M20.castD (D' := G) (by rw [hG]; skip)
    have PG : PR G := by rw [hG]; exact PF.go
    have PGw := PG.w
    have G3 : G 0 32 = D 0 32 := by rw [hG, go_0 _ (by decide)]; exact F3
    have NG : NB (G 12) := by rw [hG, go_row _ (by decide)]; exact NF
    refine ⟨MG.k0, ?_⟩
    try rw [MG.f32]
    refine ⟨ir (by omega) (by omega), ir (by omega) (by omega), fun c29 => ?_, fun c29 => ?_⟩
    · refine ⟨MG.k0, ?_⟩
      try rw [MG.f32]
      refine ⟨MG.k0, ?_⟩
      try rw [MG.r36]
      refine ⟨MG.k0, ?_⟩
      try rw [MG.f32]
      refine ⟨MG.k0, ?_⟩
      refine S_X7_newName_12 MG PG (by omega) (by omega) (by exact NG) (fun x51 h51 e51 M51 => ?_)
      subst e51
      rw [G3] at M51
      obtain ⟨W, hW⟩ : ∃ Z, Z = lpW D := ⟨_, rfl⟩
      have MW := M51.castD (D' := W) (by rw [hW]; unfold lpW; rw [← hF, ← hG]; first | (rw [if_pos (by omega)]; done) | (rw [if_neg (by omega)]; done))
      have PW : PR W := by rw [hW]; exact ((P.l1 _ _).go).nw _ _ _ (by decide) (by decide)
      have PWw := PW.w
      refine ⟨MW.k0, ?_⟩
      try rw [MW.f32]
      refine ⟨MW.k0, ?_⟩
      try rw [MW.f25]
      refine ⟨ir (by omega) (by omega), fun c63 => ?_, fun c63 => ?_⟩
      · refine S_X7_flag (by omega) (fun x71 e71 => ?_)
        subst e71
        refine MW.p32 (fun h75 M75 => ?_)
        refine H _ _ rfl (M75.castD ?_)
        unfold lpD
        rw [← hW]
        first
        | (rw [if_pos (by omega)]; done)
        | (rw [if_neg (by omega)]; done)
      · refine S_X7_flag (by omega) (fun x71 e71 => ?_)
        subst e71
        refine MW.p32 (fun h75 M75 => ?_)
        refine H _ _ rfl (M75.castD ?_)
        unfold lpD
        rw [← hW]
        first
        | (rw [if_pos (by omega)]; done)
        | (rw [if_neg (by omega)]; done)
    · refine ⟨MG.k0, ?_⟩
      try rw [MG.r36]
      refine ⟨MG.k0, ?_⟩
      try rw [MG.f32]
      refine ⟨MG.k0, ?_⟩
      refine S_X7_newName_12 MG PG (by omega) (by omega) (by exact NG) (fun x51 h51 e51 M51 => ?_)
      subst e51
      rw [G3] at M51
      obtain ⟨W, hW⟩ : ∃ Z, Z = lpW D := ⟨_, rfl⟩
      have MW := M51.castD (D' := W) (by rw [hW]; unfold lpW; rw [← hF, ← hG]; first | (rw [if_pos (by omega)]; done) | (rw [if_neg (by omega)]; done))
      have PW : PR W := by rw [hW]; exact ((P.l1 _ _).go).nw _ _ _ (by decide) (by decide)
      have PWw := PW.w
      refine ⟨MW.k0, ?_⟩
      try rw [MW.f32]
      refine ⟨MW.k0, ?_⟩
      try rw [MW.f25]
      refine ⟨ir (by omega) (by omega), fun c63 => ?_, fun c63 => ?_⟩
      · refine S_X7_flag (by omega) (fun x71 e71 => ?_)
        subst e71
        refine MW.p32 (fun h75 M75 => ?_)
        refine H _ _ rfl (M75.castD ?_)
        unfold lpD
        rw [← hW]
        first
        | (rw [if_pos (by omega)]; done)
        | (rw [if_neg (by omega)]; done)
      · refine S_X7_flag (by omega) (fun x71 e71 => ?_)
        subst e71
        refine MW.p32 (fun h75 M75 => ?_)
        refine H _ _ rfl (M75.castD ?_)
        unfold lpD
        rw [← hW]
        first
        | (rw [if_pos (by omega)]; done)
        | (rw [if_neg (by omega)]; done)
  · refine ⟨M.k0, ?_⟩
    refine S_X7_failsIf M (by omega) (by exact P.w) (fun x16 h16 e16 M16 => ?_)
    subst e16
    obtain ⟨F, hF⟩ : ∃ Z, Z = l1D D 32 6 := ⟨_, rfl⟩
    have MF := M16.castD (D' := F) (by rw [hF]; unfold l1D fiD; (repeat' split) <;> first | rfl | (exfalso; omega))
    have PF : PR F := by rw [hF]; exact P.l1 _ _
    have PFw := PF.w
    have F3 : F 0 32 = D 0 32 := by rw [hF]; exact l1_0 _ _ _ (by decide)
    have NF : NB (F 12) := by rw [hF, l1_row _ _ _ (by decide)]; assumption
    refine ⟨MF.k0, ?_⟩
    refine S_X7_goesOn MF PF (fun x20 h20 e20 M20 => ?_)
    subst e20
    obtain ⟨G, hG⟩ : ∃ Z, Z = gD F := ⟨_, rfl⟩
    have MG := M20.castD (D' := G) (by rw [hG]; skip)
    have PG : PR G := by rw [hG]; exact PF.go
    have PGw := PG.w
    have G3 : G 0 32 = D 0 32 := by rw [hG, go_0 _ (by decide)]; exact F3
    have NG : NB (G 12) := by rw [hG, go_row _ (by decide)]; exact NF
    refine ⟨MG.k0, ?_⟩
    try rw [MG.f32]
    refine ⟨ir (by omega) (by omega), ir (by omega) (by omega), fun c29 => ?_, fun c29 => ?_⟩
    · refine ⟨MG.k0, ?_⟩
      try rw [MG.f32]
      refine ⟨MG.k0, ?_⟩
      try rw [MG.r36]
      refine ⟨MG.k0, ?_⟩
      try rw [MG.f32]
      refine ⟨MG.k0, ?_⟩
      refine S_X7_newName_12 MG PG (by omega) (by omega) (by exact NG) (fun x51 h51 e51 M51 => ?_)
      subst e51
      rw [G3] at M51
      obtain ⟨W, hW⟩ : ∃ Z, Z = lpW D := ⟨_, rfl⟩
      have MW := M51.castD (D' := W) (by rw [hW]; unfold lpW; rw [← hF, ← hG]; first | (rw [if_pos (by omega)]; done) | (rw [if_neg (by omega)]; done))
      have PW : PR W := by rw [hW]; exact ((P.l1 _ _).go).nw _ _ _ (by decide) (by decide)
      have PWw := PW.w
      refine ⟨MW.k0, ?_⟩
      try rw [MW.f32]
      refine ⟨MW.k0, ?_⟩
      try rw [MW.f25]
      refine ⟨ir (by omega) (by omega), fun c63 => ?_, fun c63 => ?_⟩
      · refine S_X7_flag (by omega) (fun x71 e71 => ?_)
        subst e71
        refine MW.p32 (fun h75 M75 => ?_)
        refine H _ _ rfl (M75.castD ?_)
        unfold lpD
        rw [← hW]
        first
        | (rw [if_pos (by omega)]; done)
        | (rw [if_neg (by omega)]; done)
      · refine S_X7_flag (by omega) (fun x71 e71 => ?_)
        subst e71
        refine MW.p32 (fun h75 M75 => ?_)
        refine H _ _ rfl (M75.castD ?_)
        unfold lpD
        rw [← hW]
        first
        | (rw [if_pos (by omega)]; done)
        | (rw [if_neg (by omega)]; done)
    · refine ⟨MG.k0, ?_⟩
      try rw [MG.r36]
      refine ⟨MG.k0, ?_⟩
      try rw [MG.f32]
      refine ⟨MG.k0, ?_⟩
      refine S_X7_newName_12 MG PG (by omega) (by omega) (by exact NG) (fun x51 h51 e51 M51 => ?_)
      subst e51
      rw [G3] at M51
      obtain ⟨W, hW⟩ : ∃ Z, Z = lpW D := ⟨_, rfl⟩
      have MW := M51.castD (D' := W) (by rw [hW]; unfold lpW; rw [← hF, ← hG]; first | (rw [if_pos (by omega)]; done) | (rw [if_neg (by omega)]; done))
      have PW : PR W := by rw [hW]; exact ((P.l1 _ _).go).nw _ _ _ (by decide) (by decide)
      have PWw := PW.w
      refine ⟨MW.k0, ?_⟩
      try rw [MW.f32]
      refine ⟨MW.k0, ?_⟩
      try rw [MW.f25]
      refine ⟨ir (by omega) (by omega), fun c63 => ?_, fun c63 => ?_⟩
      · refine S_X7_flag (by omega) (fun x71 e71 => ?_)
        subst e71
        refine MW.p32 (fun h75 M75 => ?_)
        refine H _ _ rfl (M75.castD ?_)
        unfold lpD
        rw [← hW]
        first
        | (rw [if_pos (by omega)]; done)
        | (rw [if_neg (by omega)]; done)
      · refine S_X7_flag (by omega) (fun x71 e71 => ?_)
        subst e71
        refine MW.p32 (fun h75 M75 => ?_)
        refine H _ _ rfl (M75.castD ?_)
        unfold lpD
        rw [← hW]
        first
        | (rw [if_pos (by omega)]; done)
        | (rw [if_neg (by omega)]; done)
