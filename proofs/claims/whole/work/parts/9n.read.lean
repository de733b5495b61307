/-! the model reads (2) (written by wip/whole/tools/eng.py) -/
section VCS
variable {call : PC} {mc ms fr : Nat} {Q : Int → PH → Prop} {X : Nat → PH → Prop} {K : PK}
set_option maxRecDepth 100000 in
theorem v_X7_goesOn_0 (a0 : Nat) (h : PH) (c s : Nat) (H : hk h a0 = 8 ∧ InR (hi h a0 25) ∧ ((hi h a0 25) = 0 →
 hk h a0 = 8 ∧ call m_X7_token [pA a0] h (fun _ h1 =>
 Q 0 h1) X) ∧
((hi h a0 25) ≠ 0 →
 Q 0 h)) : wpc k_X7_goesOn [] call mc ms fr Q X [] K 400 (pto 0 k_X7_goesOn) [some (pA a0)] [] h c s :=
  H
set_option maxRecDepth 100000 in
theorem v_X7_takes_0 (a0 : Nat) (i1 : Int) (i2 : Int) (z3 : Option PV) (h : PH) (c s : Nat) (H : hk h a0 = 8 ∧ InR (hi h a0 23) ∧ InR 2 ∧ ((hi h a0 23) = 2 →
 hk h a0 = 8 ∧ call m_X7_in [pI (hi h a0 24), pI i1, pI i2] h (fun x1 h1 =>
 InR x1 ∧ (x1 = 0 →
 hk h1 a0 = 8 ∧ call m_X7_fails [pA a0, pI 2] h1 (fun _ h2 =>
 hk h2 a0 = 8 ∧ InR (hi h2 a0 25) ∧ ((hi h2 a0 25) = 0 →
 hk h2 a0 = 8 ∧ hk h2 a0 = 8 ∧ call m_X7_goesOn [pA a0] h2 (fun _ h3 =>
 Q (hi h2 a0 24) h3) X) ∧
((hi h2 a0 25) ≠ 0 →
 hk h2 a0 = 8 ∧ call m_X7_goesOn [pA a0] h2 (fun _ h4 =>
 Q i1 h4) X)) X) ∧
(x1 ≠ 0 →
 hk h1 a0 = 8 ∧ InR (hi h1 a0 25) ∧ ((hi h1 a0 25) = 0 →
 hk h1 a0 = 8 ∧ hk h1 a0 = 8 ∧ call m_X7_goesOn [pA a0] h1 (fun _ h5 =>
 Q (hi h1 a0 24) h5) X) ∧
((hi h1 a0 25) ≠ 0 →
 hk h1 a0 = 8 ∧ call m_X7_goesOn [pA a0] h1 (fun _ h6 =>
 Q i1 h6) X))) X) ∧
((hi h a0 23) ≠ 2 →
 hk h a0 = 8 ∧ call m_X7_fails [pA a0, pI 1] h (fun _ h7 =>
 hk h7 a0 = 8 ∧ InR (hi h7 a0 25) ∧ ((hi h7 a0 25) = 0 →
 hk h7 a0 = 8 ∧ hk h7 a0 = 8 ∧ call m_X7_goesOn [pA a0] h7 (fun _ h8 =>
 Q (hi h7 a0 24) h8) X) ∧
((hi h7 a0 25) ≠ 0 →
 hk h7 a0 = 8 ∧ call m_X7_goesOn [pA a0] h7 (fun _ h9 =>
 Q i1 h9) X)) X)) : wpc k_X7_takes [] call mc ms fr Q X [] K 400 (pto 0 k_X7_takes) [some (pA a0), some (pI i1), some (pI i2), z3] [] h c s :=
  H
end VCS
theorem S_X7_goesOn {d b : Nat} {h0 h : PH} {D : Nat → Int → Int} {s : Int → Int} {t : Int} {Q : Int → PH → Prop} {X : Nat → PH → Prop} (M : Mt b h0 h D s t) (P : PR D)  (H : ∀ (x : Int) h', x = 0 → Mt b h0 h' (gD D) s t → Q x h') : RUN GQ (d + 3) m_X7_goesOn [pA b] h Q X := by
  have Pw := P.w
  rw [e_X7_goesOn]
  refine WP.of (RUN.mono GQ _) (cuts := []) (n := 400) (v_X7_goesOn_0 _ _ _ _ ?_)
  refine ⟨M.k0, ?_⟩
  try rw [M.f25]
  refine ⟨ir (by omega) (by omega), fun c4 => ?_, fun c4 => ?_⟩
  · refine ⟨M.k0, ?_⟩
    refine S_X7_token M (by exact P.L) (by exact P.n) (by exact P.B) (fun x8 h8 e8 M8 => ?_)
    subst e8
    refine H _ _ rfl (M8.castD ?_)
    unfold gD
    first
    | (rw [if_pos (by omega)]; done)
    | (rw [if_neg (by omega)]; done)
  · refine H _ _ rfl (M.castD ?_)
    unfold gD
    first
    | (rw [if_pos (by omega)]; done)
    | (rw [if_neg (by omega)]; done)
theorem S_X7_takes {d b : Nat} {h0 h : PH} {D : Nat → Int → Int} {s : Int → Int} {t : Int} {Q : Int → PH → Prop} {X : Nat → PH → Prop} {lo hi' : Int} (M : Mt b h0 h D s t) (P : PR D) (hlo : 0 ≤ lo ∧ lo ≤ hi' ∧ hi' ≤ 999) (H : ∀ (x : Int) h', x = tvV D lo hi' → Mt b h0 h' (gD (tkE D lo hi')) s t → Q x h') : RUN GQ (d + 4) m_X7_takes [pA b, pI lo, pI hi'] h Q X := by
  have Pw := P.w
  have P3 := P.2.2.1
  have P4 := P.2.2.2.1
  rw [e_X7_takes]
  refine WP.of (RUN.mono GQ _) (cuts := []) (n := 400) (v_X7_takes_0 _ _ _ _ _ _ _ ?_)
  refine ⟨M.k0, ?_⟩
  try rw [M.f23]
  refine ⟨ir (by omega) (by omega), ir (by omega) (by omega), fun c5 => ?_, fun c5 => ?_⟩
  · refine ⟨M.k0, ?_⟩
    try rw [M.f24]
    refine S_X7_inB (by omega) (by omega) (by omega) (fun x22 e22 => ?_)
    refine ⟨ir (by omega) (by omega), fun c25 => ?_, fun c25 => ?_⟩
    · refine ⟨M.k0, ?_⟩
      refine S_X7_fails M (by exact P.w) (fun x30 h30 e30 M30 => ?_)
      subst e30
      obtain ⟨F, hF⟩ : ∃ F, F = tkE D lo hi' := ⟨_, rfl⟩
      have MF := M30.castD (D' := F) (by rw [hF]; unfold tkE; first | (rw [if_pos (by omega), if_pos (by omega)]; done) | (rw [if_pos (by omega), if_neg (by omega)]; done) | (rw [if_neg (by omega)]; done))
      have PF : PR F := by rw [hF]; exact P.tE _ _
      have PFw := PF.w
      refine ⟨MF.k0, ?_⟩
      try rw [MF.f25]
      refine ⟨ir (by omega) (by omega), fun c37 => ?_, fun c37 => ?_⟩
      · refine ⟨MF.k0, ?_⟩
        try rw [MF.f24]
        refine ⟨MF.k0, ?_⟩
        refine S_X7_goesOn MF PF (fun x50 h50 e50 M50 => ?_)
        subst e50
        refine H _ _ ?_ (M50.castD (by rw [hF]))
        unfold tvV
        rw [← hF]
        first
        | (rw [if_pos (by omega)]; done)
        | (rw [if_neg (by omega)]; done)
      · refine ⟨MF.k0, ?_⟩
        refine S_X7_goesOn MF PF (fun x50 h50 e50 M50 => ?_)
        subst e50
        refine H _ _ ?_ (M50.castD (by rw [hF]))
        unfold tvV
        rw [← hF]
        first
        | (rw [if_pos (by omega)]; done)
        | (rw [if_neg (by omega)]; done)
    · obtain ⟨F, hF⟩ : ∃ F, F = tkE D lo hi' := ⟨_, rfl⟩
      have MF := M.castD (D' := F) (by rw [hF]; unfold tkE; first | (rw [if_pos (by omega), if_pos (by omega)]; done) | (rw [if_pos (by omega), if_neg (by omega)]; done) | (rw [if_neg (by omega)]; done))
      have PF : PR F := by rw [hF]; exact P.tE _ _
      have PFw := PF.w
      refine ⟨MF.k0, ?_⟩
      try rw [MF.f25]
      refine ⟨ir (by omega) (by omega), fun c37 => ?_, fun c37 => ?_⟩
      · refine ⟨MF.k0, ?_⟩
        try rw [MF.f24]
        refine ⟨MF.k0, ?_⟩
        refine S_X7_goesOn MF PF (fun x50 h50 e50 M50 => ?_)
        subst e50
        refine H _ _ ?_ (M50.castD (by rw [hF]))
        unfold tvV
        rw [← hF]
        first
        | (rw [if_pos (by omega)]; done)
        | (rw [if_neg (by omega)]; done)
      · refine ⟨MF.k0, ?_⟩
        refine S_X7_goesOn MF PF (fun x50 h50 e50 M50 => ?_)
        subst e50
        refine H _ _ ?_ (M50.castD (by rw [hF]))
        unfold tvV
        rw [← hF]
        first
        | (rw [if_pos (by omega)]; done)
        | (rw [if_neg (by omega)]; done)
  · refine ⟨M.k0, ?_⟩
    refine S_X7_fails M (by exact P.w) (fun x10 h10 e10 M10 => ?_)
    subst e10
    obtain ⟨F, hF⟩ : ∃ F, F = tkE D lo hi' := ⟨_, rfl⟩
    have MF := M10.castD (D' := F) (by rw [hF]; unfold tkE; first | (rw [if_pos (by omega), if_pos (by omega)]; done) | (rw [if_pos (by omega), if_neg (by omega)]; done) | (rw [if_neg (by omega)]; done))
    have PF : PR F := by rw [hF]; exact P.tE _ _
    have PFw := PF.w
    refine ⟨MF.k0, ?_⟩
    try rw [MF.f25]
    refine ⟨ir (by omega) (by omega), fun c37 => ?_, fun c37 => ?_⟩
    · refine ⟨MF.k0, ?_⟩
      try rw [MF.f24]
      refine ⟨MF.k0, ?_⟩
      refine S_X7_goesOn MF PF (fun x50 h50 e50 M50 => ?_)
      subst e50
      refine H _ _ ?_ (M50.castD (by rw [hF]))
      unfold tvV
      rw [← hF]
      first
      | (rw [if_pos (by omega)]; done)
      | (rw [if_neg (by omega)]; done)
    · refine ⟨MF.k0, ?_⟩
      refine S_X7_goesOn MF PF (fun x50 h50 e50 M50 => ?_)
      subst e50
      refine H _ _ ?_ (M50.castD (by rw [hF]))
      unfold tvV
      rw [← hF]
      first
      | (rw [if_pos (by omega)]; done)
      | (rw [if_neg (by omega)]; done)
