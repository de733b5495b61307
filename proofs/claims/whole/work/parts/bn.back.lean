/-! the class goes back, and saves -/
theorem back_room {d w n k A : Nat} {h : PH} {E F : Nat → Int → Int} {Q' : Int → PH → Prop} {X : Nat → PH → Prop} {i : Int} (hw : hk h w = 25 ∧ hl h w = n) (hix : 0 ≤ i ∧ i < n) (hik : i.toNat = k) (hn100 : n ≤ 100) (hb : hn h ≠ 0) (hwn : w < hn h) (r0 : hr h w k ≠ 0) (M : Hx A h h E) (G : RMK h (hr h w k) F) (hd : A + 14 ≤ hr h w k) (H : ∀ h5, Hx A h h5 (cpE F E) → Q' 0 h5) :
    RUN GQ (d + 6) m_X6_roomAt [pA w, pI i] h (fun x h4 => hk h4 A = 1 ∧ RUN GQ (d + 6) m_X0_copyFrom [pA A, pA (Int.toNat x)] h4 Q' X) X := by
  refine S_X6_roomAt hw hix hn100 hb hwn (fun h1 a ra => ?_)
  rw [hik] at ra
  rcases ra with ⟨r1, r2, r3⟩ | ⟨r1, _⟩
  · subst r3
    rw [Int.toNat_natCast, r2]
    refine ⟨M.k 0 (by decide) rfl, ?_⟩
    exact S_X0_copyFrom M G.1 (by omega) (fun x h2 e2 M2 => by rw [e2]; exact H h2 M2)
  · exact absurd r1 r0
/-- the object's two numbers of the past are changed -/
def US (h h1 : PH) (nx' : Nat) (c' : Int) : Prop := (∀ r, r ≠ 64 → SC h h1 r) ∧ hn h1 = hn h ∧ h1.2.1 64 = h.2.1 64 ∧ (∀ k, hr h1 64 k = hr h 64 k) ∧ (∀ k, k ≠ 10 → k ≠ 11 → hi h1 64 k = hi h 64 k) ∧ hi h1 64 10 = nx' ∧ hi h1 64 11 = c'
theorem US.mk {h : PH} (nx' : Nat) {u c' : Int} (hu : u = nx') : US h (hsi (hsi h 64 11 c') 64 10 u) nx' c' := by
  refine ⟨fun r x => ⟨rfl, fun k => ⟨by rw [hi_hsi, if_neg (by omega), hi_hsi, if_neg (by omega)], rfl⟩⟩, rfl, rfl, fun _ => rfl, fun k x y => by rw [hi_hsi, if_neg (by omega), hi_hsi, if_neg (by omega)], ?_, ?_⟩
  · rw [hi_hsi, if_pos ⟨rfl, rfl⟩, hu]
  · rw [hi_hsi, if_neg (by omega), hi_hsi, if_pos ⟨rfl, rfl⟩]
section BK
variable {call : PC} {mc ms fr : Nat} {Q : Int → PH → Prop} {X : Nat → PH → Prop} {K : PK}
set_option maxRecDepth 100000 in
theorem v_X6_undo_0 (a0 : Nat) (h : PH) (c s : Nat) (H : hk h a0 = 7 ∧ InR (hi h a0 11) ∧ (0 < (hi h a0 11) →
 (c + 1 ≤ mc ∧ s + 6 ≤ ms) ∧ call m_X6_needState [pI 1] h (fun _ h1 =>
 hk h1 a0 = 7 ∧ hk h1 a0 = 7 ∧ ∀ h2, h2 = hsi h1 a0 11 ((hi h1 a0 11) - 1) →
 hk h2 a0 = 7 ∧ InR (hi h2 a0 10) ∧ (0 < (hi h2 a0 10) →
 hk h2 a0 = 7 ∧ hk h2 a0 = 7 ∧ ∀ h3, h3 = hsi h2 a0 10 ((hi h2 a0 10) - 1) →
 hk h3 a0 = 7 ∧ hk h3 a0 = 7 ∧ hk h3 a0 = 7 ∧ ((c + 1) + 16 ≤ mc ∧ (s + 6) + 1620 ≤ ms) ∧ call m_X6_roomAt [pA (hr h3 a0 9), pI (hi h3 a0 10)] h3 (fun x4 h4 =>
 hk h4 (hr h3 a0 6) = 1 ∧ call m_X0_copyFrom [pA (hr h3 a0 6), pA (Int.toNat x4)] h4 (fun _ h5 =>
 hk h5 a0 = 7 ∧ Q (hi h5 a0 11) h5) X) X) ∧
((hi h2 a0 10) ≤ 0 →
 hk h2 a0 = 7 ∧ ∀ h6, h6 = hsi h2 a0 10 7 →
 hk h6 a0 = 7 ∧ hk h6 a0 = 7 ∧ hk h6 a0 = 7 ∧ ((c + 1) + 16 ≤ mc ∧ (s + 6) + 1620 ≤ ms) ∧ call m_X6_roomAt [pA (hr h6 a0 9), pI (hi h6 a0 10)] h6 (fun x7 h7 =>
 hk h7 (hr h6 a0 6) = 1 ∧ call m_X0_copyFrom [pA (hr h6 a0 6), pA (Int.toNat x7)] h7 (fun _ h8 =>
 hk h8 a0 = 7 ∧ Q (hi h8 a0 11) h8) X) X)) X) ∧
((hi h a0 11) ≤ 0 →
 (c + 1 ≤ mc ∧ s + 6 ≤ ms) ∧ call m_X6_needState [pI 0] h (fun _ h9 =>
 hk h9 a0 = 7 ∧ hk h9 a0 = 7 ∧ ∀ h10, h10 = hsi h9 a0 11 ((hi h9 a0 11) - 1) →
 hk h10 a0 = 7 ∧ InR (hi h10 a0 10) ∧ (0 < (hi h10 a0 10) →
 hk h10 a0 = 7 ∧ hk h10 a0 = 7 ∧ ∀ h11, h11 = hsi h10 a0 10 ((hi h10 a0 10) - 1) →
 hk h11 a0 = 7 ∧ hk h11 a0 = 7 ∧ hk h11 a0 = 7 ∧ ((c + 1) + 16 ≤ mc ∧ (s + 6) + 1620 ≤ ms) ∧ call m_X6_roomAt [pA (hr h11 a0 9), pI (hi h11 a0 10)] h11 (fun x12 h12 =>
 hk h12 (hr h11 a0 6) = 1 ∧ call m_X0_copyFrom [pA (hr h11 a0 6), pA (Int.toNat x12)] h12 (fun _ h13 =>
 hk h13 a0 = 7 ∧ Q (hi h13 a0 11) h13) X) X) ∧
((hi h10 a0 10) ≤ 0 →
 hk h10 a0 = 7 ∧ ∀ h14, h14 = hsi h10 a0 10 7 →
 hk h14 a0 = 7 ∧ hk h14 a0 = 7 ∧ hk h14 a0 = 7 ∧ ((c + 1) + 16 ≤ mc ∧ (s + 6) + 1620 ≤ ms) ∧ call m_X6_roomAt [pA (hr h14 a0 9), pI (hi h14 a0 10)] h14 (fun x15 h15 =>
 hk h15 (hr h14 a0 6) = 1 ∧ call m_X0_copyFrom [pA (hr h14 a0 6), pA (Int.toNat x15)] h15 (fun _ h16 =>
 hk h16 a0 = 7 ∧ Q (hi h16 a0 11) h16) X) X)) X)) : wpc k_X6_undo [] call mc ms fr Q X [] K 400 (pto 0 k_X6_undo) [some (pA a0)] [] h c s :=
  H

set_option maxRecDepth 100000 in
theorem v_X6_undoable_0 (a0 : Nat) (h : PH) (c s : Nat) (H : hk h a0 = 7 ∧ Q (hi h a0 11) h) : wpc k_X6_undoable [] call mc ms fr Q X [] K 400 (pto 0 k_X6_undoable) [some (pA a0)] [] h c s :=
  H

set_option maxRecDepth 100000 in
theorem v_X6_save_0 (a0 : Nat) (i1 : Int) (h : PH) (c s : Nat) (H : hk h a0 = 7 ∧ (c + 1 ≤ mc ∧ s + 6 ≤ ms) ∧ call m_X6_needHall [pA a0] h (fun _ h1 =>
 InR i1 ∧ (i1 < 0 →
 ((c + 1) + 1 ≤ mc ∧ (s + 6) + 6 ≤ ms) ∧ call m_X6_needIndex [pI 0] h1 (fun _ h2 =>
 hk h2 a0 = 7 ∧ (((c + 1) + 1) + 16 ≤ mc ∧ ((s + 6) + 6) + 1620 ≤ ms) ∧ call m_X6_roomAt [pA (hr h2 a0 12), pI i1] h2 (fun x3 h3 =>
 hk h3 a0 = 7 ∧ hk h3 (Int.toNat x3) = 1 ∧ call m_X0_copyFrom [pA (Int.toNat x3), pA (hr h3 a0 6)] h3 (fun _ h4 =>
 hk h4 a0 = 7 ∧ hk h4 (hr h4 a0 13) = 22 ∧ (0 ≤ i1 ∧ i1 < (hl h4 (hr h4 a0 13) : Int)) ∧ ((1 : Int) = 0 ∨ (1 : Int) = 1) ∧ ∀ h5, h5 = hsi h4 (hr h4 a0 13) (Int.toNat i1) 1 →
 hk h5 a0 = 7 ∧ hk h5 (hr h5 a0 6) = 1 ∧ Q (hi h5 (hr h5 a0 6) 10) h5) X) X) X) ∧
(0 ≤ i1 →
 InR i1 ∧ InR 2 ∧ (i1 < 2 →
 ((c + 1) + 1 ≤ mc ∧ (s + 6) + 6 ≤ ms) ∧ call m_X6_needIndex [pI 1] h1 (fun _ h6 =>
 hk h6 a0 = 7 ∧ (((c + 1) + 1) + 16 ≤ mc ∧ ((s + 6) + 6) + 1620 ≤ ms) ∧ call m_X6_roomAt [pA (hr h6 a0 12), pI i1] h6 (fun x7 h7 =>
 hk h7 a0 = 7 ∧ hk h7 (Int.toNat x7) = 1 ∧ call m_X0_copyFrom [pA (Int.toNat x7), pA (hr h7 a0 6)] h7 (fun _ h8 =>
 hk h8 a0 = 7 ∧ hk h8 (hr h8 a0 13) = 22 ∧ (0 ≤ i1 ∧ i1 < (hl h8 (hr h8 a0 13) : Int)) ∧ ((1 : Int) = 0 ∨ (1 : Int) = 1) ∧ ∀ h9, h9 = hsi h8 (hr h8 a0 13) (Int.toNat i1) 1 →
 hk h9 a0 = 7 ∧ hk h9 (hr h9 a0 6) = 1 ∧ Q (hi h9 (hr h9 a0 6) 10) h9) X) X) X) ∧
(2 ≤ i1 →
 ((c + 1) + 1 ≤ mc ∧ (s + 6) + 6 ≤ ms) ∧ call m_X6_needIndex [pI 0] h1 (fun _ h10 =>
 hk h10 a0 = 7 ∧ (((c + 1) + 1) + 16 ≤ mc ∧ ((s + 6) + 6) + 1620 ≤ ms) ∧ call m_X6_roomAt [pA (hr h10 a0 12), pI i1] h10 (fun x11 h11 =>
 hk h11 a0 = 7 ∧ hk h11 (Int.toNat x11) = 1 ∧ call m_X0_copyFrom [pA (Int.toNat x11), pA (hr h11 a0 6)] h11 (fun _ h12 =>
 hk h12 a0 = 7 ∧ hk h12 (hr h12 a0 13) = 22 ∧ (0 ≤ i1 ∧ i1 < (hl h12 (hr h12 a0 13) : Int)) ∧ ((1 : Int) = 0 ∨ (1 : Int) = 1) ∧ ∀ h13, h13 = hsi h12 (hr h12 a0 13) (Int.toNat i1) 1 →
 hk h13 a0 = 7 ∧ hk h13 (hr h13 a0 6) = 1 ∧ Q (hi h13 (hr h13 a0 6) 10) h13) X) X) X))) X) : wpc k_X6_save [] call mc ms fr Q X [] K 400 (pto 0 k_X6_save) [some (pA a0), some (pI i1)] [] h c s :=
  H

set_option maxRecDepth 100000 in
theorem v_X6_restore_0 (a0 : Nat) (i1 : Int) (h : PH) (c s : Nat) (H : InR i1 ∧ (i1 < 0 →
 (c + 1 ≤ mc ∧ s + 6 ≤ ms) ∧ call m_X6_needIndex [pI 0] h (fun _ h1 =>
 hk h1 a0 = 7 ∧ hk h1 (hr h1 a0 13) = 22 ∧ (0 ≤ i1 ∧ i1 < (hl h1 (hr h1 a0 13) : Int)) ∧ ((c + 1) + 1 ≤ mc ∧ (s + 6) + 6 ≤ ms) ∧ call m_X6_needState [pI (hi h1 (hr h1 a0 13) (Int.toNat i1))] h1 (fun _ h2 =>
 hk h2 a0 = 7 ∧ hk h2 a0 = 7 ∧ (((c + 1) + 1) + 16 ≤ mc ∧ ((s + 6) + 6) + 1620 ≤ ms) ∧ call m_X6_roomAt [pA (hr h2 a0 12), pI i1] h2 (fun x3 h3 =>
 hk h3 (hr h2 a0 6) = 1 ∧ call m_X0_copyFrom [pA (hr h2 a0 6), pA (Int.toNat x3)] h3 (fun _ h4 =>
 hk h4 a0 = 7 ∧ ∀ h5, h5 = hsi h4 a0 11 0 →
 hk h5 a0 = 7 ∧ hk h5 (hr h5 a0 6) = 1 ∧ Q (hi h5 (hr h5 a0 6) 10) h5) X) X) X) X) ∧
(0 ≤ i1 →
 InR i1 ∧ InR 2 ∧ (i1 < 2 →
 (c + 1 ≤ mc ∧ s + 6 ≤ ms) ∧ call m_X6_needIndex [pI 1] h (fun _ h6 =>
 hk h6 a0 = 7 ∧ hk h6 (hr h6 a0 13) = 22 ∧ (0 ≤ i1 ∧ i1 < (hl h6 (hr h6 a0 13) : Int)) ∧ ((c + 1) + 1 ≤ mc ∧ (s + 6) + 6 ≤ ms) ∧ call m_X6_needState [pI (hi h6 (hr h6 a0 13) (Int.toNat i1))] h6 (fun _ h7 =>
 hk h7 a0 = 7 ∧ hk h7 a0 = 7 ∧ (((c + 1) + 1) + 16 ≤ mc ∧ ((s + 6) + 6) + 1620 ≤ ms) ∧ call m_X6_roomAt [pA (hr h7 a0 12), pI i1] h7 (fun x8 h8 =>
 hk h8 (hr h7 a0 6) = 1 ∧ call m_X0_copyFrom [pA (hr h7 a0 6), pA (Int.toNat x8)] h8 (fun _ h9 =>
 hk h9 a0 = 7 ∧ ∀ h10, h10 = hsi h9 a0 11 0 →
 hk h10 a0 = 7 ∧ hk h10 (hr h10 a0 6) = 1 ∧ Q (hi h10 (hr h10 a0 6) 10) h10) X) X) X) X) ∧
(2 ≤ i1 →
 (c + 1 ≤ mc ∧ s + 6 ≤ ms) ∧ call m_X6_needIndex [pI 0] h (fun _ h11 =>
 hk h11 a0 = 7 ∧ hk h11 (hr h11 a0 13) = 22 ∧ (0 ≤ i1 ∧ i1 < (hl h11 (hr h11 a0 13) : Int)) ∧ ((c + 1) + 1 ≤ mc ∧ (s + 6) + 6 ≤ ms) ∧ call m_X6_needState [pI (hi h11 (hr h11 a0 13) (Int.toNat i1))] h11 (fun _ h12 =>
 hk h12 a0 = 7 ∧ hk h12 a0 = 7 ∧ (((c + 1) + 1) + 16 ≤ mc ∧ ((s + 6) + 6) + 1620 ≤ ms) ∧ call m_X6_roomAt [pA (hr h12 a0 12), pI i1] h12 (fun x13 h13 =>
 hk h13 (hr h12 a0 6) = 1 ∧ call m_X0_copyFrom [pA (hr h12 a0 6), pA (Int.toNat x13)] h13 (fun _ h14 =>
 hk h14 a0 = 7 ∧ ∀ h15, h15 = hsi h14 a0 11 0 →
 hk h15 a0 = 7 ∧ hk h15 (hr h15 a0 6) = 1 ∧ Q (hi h15 (hr h15 a0 6) 10) h15) X) X) X) X))) : wpc k_X6_restore [] call mc ms fr Q X [] K 400 (pto 0 k_X6_restore) [some (pA a0), some (pI i1)] [] h c s :=
  H

end BK
theorem tUn_or2 (D : Nat → Int → Int) : (D 0 14 = 0 ∧ tUn D = 1) ∨ (D 0 14 ≠ 0 ∧ tUn D = 0) := by
  unfold tUn
  split <;> omega
theorem S_X6_undoable {d nx : Nat} {h : PH} {B A : Nat} {EP E D : Nat → Int → Int} {s : Int → Int} {Q : Int → PH → Prop} {X : Nat → PH → Prop} (T : FT h B A EP E D s) (P : PST h D nx) (H : ∀ x : Int, x = D 0 14 → Q x h) : RUN GQ (d + 1) m_X6_undoable [pA 64] h Q X := by
  rw [e_X6_undoable]
  refine WP.of (RUN.mono GQ _) (cuts := []) (n := 400) (v_X6_undoable_0 _ _ _ _ ?_)
  exact ⟨T.k, H _ P.1.2.2⟩
theorem S_X6_undo {d nx : Nat} {h : PH} {B A : Nat} {EP E D : Nat → Int → Int} {s : Int → Int} {N : Int} {Q : Int → PH → Prop} {X : Nat → PH → Prop} (T : FT h B A EP E D s) (dAB : DAB A B) (P : PST h D nx) (n141 : 141 ≤ hn h) (RM : RR h D nx (D 0 14).toNat N)
    (H : ∀ h1 h' F, tUn D = 0 → US h h1 (if nx = 0 then 7 else nx - 1) (D 0 14 - 1) → Hx A h1 h' (cpE F E) → KPT F D ((D 0 14).toNat - 1) N → Q (D 0 14 - 1) h') (HX : ∀ e n', tUn D = 1 ∧ e = 0 → hn h ≤ n' → X e (hup h n')) : RUN GQ (d + 7) m_X6_undo [pA 64] h Q X := by
  have t := tUn_or2 D
  obtain ⟨⟨p9, p10, p11⟩, hnx, hc, hw⟩ := P
  have dA := dAB.1
  rw [e_X6_undo]
  refine WP.of (RUN.mono GQ _) (cuts := []) (n := 400) (v_X6_undo_0 _ _ _ _ ?_)
  refine ⟨T.k, by rw [p11]; exact ir (by omega) (by omega), fun c1 => ⟨⟨by omega, by omega⟩, ?_⟩, fun c1 => ⟨⟨by omega, by omega⟩, ?_⟩⟩
  · rw [p11] at c1
    refine S_X6_needState (Or.inr rfl) (fun _ => ?_) (fun z => absurd (by decide) z)
    -- the room that holds the latest change
    have key : ∀ u : Int, u = ((if nx = 0 then 7 else nx - 1 : Nat) : Int) → hk (hsi (hsi h 64 11 (D 0 14 - 1)) 64 10 u) 64 = 7 ∧ hk (hsi (hsi h 64 11 (D 0 14 - 1)) 64 10 u) 64 = 7 ∧ hk (hsi (hsi h 64 11 (D 0 14 - 1)) 64 10 u) 64 = 7 ∧ ((0 + 1) + 16 ≤ 10000 ∧ True) ∧ RUN GQ (d + 6) m_X6_roomAt [pA (hr (hsi (hsi h 64 11 (D 0 14 - 1)) 64 10 u) 64 9), pI (hi (hsi (hsi h 64 11 (D 0 14 - 1)) 64 10 u) 64 10)] (hsi (hsi h 64 11 (D 0 14 - 1)) 64 10 u) (fun x4 h4 =>
        hk h4 (hr (hsi (hsi h 64 11 (D 0 14 - 1)) 64 10 u) 64 6) = 1 ∧ RUN GQ (d + 6) m_X0_copyFrom [pA (hr (hsi (hsi h 64 11 (D 0 14 - 1)) 64 10 u) 64 6), pA (Int.toNat x4)] h4 (fun _ h5 => hk h5 64 = 7 ∧ Q (hi h5 64 11) h5) X) X := by
      intro u hu
      have us := US.mk (h := h) (c' := D 0 14 - 1) _ hu
      generalize hsi (hsi h 64 11 (D 0 14 - 1)) 64 10 u = h3 at us ⊢
      have k3 : hk h3 64 = 7 := by unfold hk; rw [us.2.2.1]; exact T.k
      refine ⟨k3, k3, k3, ⟨by omega, trivial⟩, ?_⟩
      rw [us.2.2.2.1 9, us.2.2.2.1 6, us.2.2.2.2.2.1, p9, T.r6]
      have j7 : (if nx = 0 then 7 else nx - 1 : Nat) < 8 := by split <;> omega
      have s4 := us.1 114 (by omega)
      have hl' := RM.2.2 (if nx = 0 then 7 else nx - 1) ((D 0 14).toNat - 1) (by omega) (Or.inl ⟨by omega, by split <;> omega⟩)
      have r1 := RM.1 (if nx = 0 then 7 else nx - 1) (by omega)
      have e1 : rho h (if nx = 0 then 7 else nx - 1) = hr h3 114 (if nx = 0 then 7 else nx - 1) := by
        unfold rho
        rw [if_pos j7]
        exact ((s4.2 _).2).symm
      rcases r1 with r1 | ⟨r1, r2, F, r3, r4⟩
      · exact absurd r1 hl'
      · rw [e1] at hl' r1 r2 r3
        have M3 : Hx A h3 h3 E := T.M.sc (fun r a b => us.1 r (by omega)) rH_lt
        refine back_room (n := 8) (A := A) (E := E) (F := F) ⟨by rw [s4.k]; exact hw.1, by rw [s4.l]; exact hw.2⟩ ⟨by omega, by omega⟩ (Int.toNat_natCast _) (by omega) (by rw [us.2.1]; omega) (by rw [us.2.1]; omega) hl' M3 (r3.sc (fun r a b => us.1 r (by omega))) (by omega) (fun h5 M5 => ?_)
        have S5 : SC h3 h5 64 := M5.2.1.sc (by omega)
        refine ⟨S5.k.trans k3, ?_⟩
        rw [(S5.2 11).1, us.2.2.2.2.2.2]
        exact H h3 h5 F (by omega) us M5 (r4 _ (Or.inl ⟨by omega, by split <;> omega⟩))
    refine ⟨T.k, T.k, fun h2 q2 => ?_⟩
    rw [p11] at q2
    have f10 : hi h2 64 10 = nx := by rw [q2, hi_hsi, if_neg (by omega)]; exact p10
    have k2 : hk h2 64 = 7 := by rw [q2]; exact T.k
    refine ⟨k2, by rw [f10]; exact ir (by omega) (by omega), fun c2 => ⟨k2, k2, fun h3 q3 => ?_⟩, fun c2 => ⟨k2, fun h3 q3 => ?_⟩⟩
    · rw [f10] at q3 c2
      subst q3; subst q2
      have q := key ((nx : Int) - 1) (by rw [if_neg (by omega)]; omega)
      exact ⟨q.1, q.2.1, q.2.2.1, ⟨by omega, by omega⟩, q.2.2.2.2⟩
    · rw [f10] at c2
      subst q3; subst q2
      have q := key 7 (by rw [if_pos (by omega)]; omega)
      exact ⟨q.1, q.2.1, q.2.2.1, ⟨by omega, by omega⟩, q.2.2.2.2⟩
  · rw [p11] at c1
    exact S_X6_needState (Or.inl rfl) (fun z => absurd rfl z) (fun _ n' l => HX 0 n' ⟨by omega, rfl⟩ l)
/-- where what was saved is found -/
def PSS (h : PH) (D : Nat → Int → Int) : Prop := (hr h 64 12 = 115 ∧ hr h 64 13 = 116) ∧ (hk h 115 = 25 ∧ hl h 115 = 2) ∧ (hk h 116 = 22 ∧ hl h 116 = 2) ∧ ∀ j : Int, 0 ≤ j → j < 2 → hi h 116 j.toNat = D 9 j ∧ (D 9 j = 0 ∨ D 9 j = 1)
theorem tRs_or2 (D : Nat → Int → Int) (j : Int) : (¬ (0 ≤ j ∧ j ≤ 1) ∧ tRs D j = 1) ∨ ((0 ≤ j ∧ j ≤ 1) ∧ D 9 j = 0 ∧ tRs D j = 2) ∨ ((0 ≤ j ∧ j ≤ 1) ∧ D 9 j ≠ 0 ∧ tRs D j = 0) := by
  unfold tRs
  split
  · split <;> omega
  · omega
theorem S_X6_restore {d nx : Nat} {h : PH} {B A : Nat} {EP E D : Nat → Int → Int} {s : Int → Int} {N : Int} {j : Int} {Q : Int → PH → Prop} {X : Nat → PH → Prop} (T : FT h B A EP E D s) (dAB : DAB A B) (PS : PSS h D) (n141 : 141 ≤ hn h) (RM : RR h D nx (D 0 14).toNat N) (hvj : InR j)
    (H : ∀ h1 F, tRs D j = 0 → Hx A h h1 (cpE F E) → KPT F D (8 + j.toNat) N → Q (F 0 10) (hsi h1 64 11 0)) (HX : ∀ e n', (tRs D j = 1 ∧ e = 2 ∨ tRs D j = 2 ∧ e = 0) → hn h ≤ n' → X e (hup h n')) : RUN GQ (d + 7) m_X6_restore [pA 64, pI j] h Q X := by
  have t := tRs_or2 D j
  obtain ⟨⟨p12, p13⟩, hw5, hw6, pj⟩ := PS
  have dA := dAB.1
  rw [e_X6_restore]
  refine WP.of (RUN.mono GQ _) (cuts := []) (n := 400) (v_X6_restore_0 _ _ _ _ _ ?_)
  refine ⟨hvj, fun c1 => ⟨⟨by omega, by omega⟩, ?_⟩, fun c1 => ⟨hvj, ir (by omega) (by omega), fun c2 => ⟨⟨by omega, by omega⟩, ?_⟩, fun c2 => ⟨⟨by omega, by omega⟩, ?_⟩⟩⟩
  · exact S_X6_needIndex (Or.inl rfl) (fun z => absurd rfl z) (fun _ n' l => HX 2 n' (Or.inl ⟨by omega, rfl⟩) l)
  · refine S_X6_needIndex (Or.inr rfl) (fun _ => ?_) (fun z => absurd (by decide) z)
    have q := pj j c1 (by omega)
    rw [p13]
    refine ⟨T.k, hw6.1, ⟨c1, by rw [hw6.2]; exact c2⟩, ⟨by omega, by omega⟩, ?_⟩
    rw [q.1]
    refine S_X6_needState q.2 (fun c3 => ?_) (fun c3 n' l => HX 0 n' (Or.inr ⟨by omega, rfl⟩) l)
    refine ⟨T.k, T.k, ⟨by omega, by omega⟩, ?_⟩
    rw [p12, T.r6]
    have hl' := RM.2.2 (8 + j.toNat) (8 + j.toNat) (by omega) (Or.inr ⟨by omega, by omega, rfl, by rw [show ((8 + j.toNat : Nat) : Int) - 8 = j by omega]; exact c3⟩)
    have e1 : rho h (8 + j.toNat) = hr h 115 j.toNat := by
      unfold rho
      rw [if_neg (by omega), show 8 + j.toNat - 8 = j.toNat by omega]
    rcases RM.1 (8 + j.toNat) (by omega) with r1 | ⟨r1, r2, F, r3, r4⟩
    · exact absurd r1 hl'
    · rw [e1] at hl' r1 r2 r3
      refine back_room (n := 2) (A := A) (E := E) (F := F) hw5 ⟨c1, by omega⟩ rfl (by omega) (by omega) (by omega) hl' T.M r3 (by omega) (fun h5 M5 => ?_)
      have S5 : SC h h5 64 := M5.2.1.sc (by omega)
      have k5 := S5.k.trans T.k
      refine ⟨k5, fun h6 q6 => ?_⟩
      have e6 : hr h6 64 6 = A := by rw [q6]; exact ((S5.2 6).2).trans T.r6
      refine ⟨by rw [q6]; exact k5, ?_⟩
      rw [e6]
      have ka : hk h6 A = 1 := by rw [q6]; exact M5.k 0 (by decide) rfl
      refine ⟨ka, ?_⟩
      have v : hi h6 A 10 = F 0 10 := by
        rw [q6, hi_hsi, if_neg (by omega)]
        exact M5.f10 0 (by decide)
      rw [v, q6]
      exact H h5 F (by omega) M5 (r4 _ (Or.inr ⟨by omega, by omega, rfl, by rw [show ((8 + j.toNat : Nat) : Int) - 8 = j by omega]; exact c3⟩))
  · exact S_X6_needIndex (Or.inl rfl) (fun z => absurd rfl z) (fun _ n' l => HX 2 n' (Or.inl ⟨by omega, rfl⟩) l)
/-- what 'save' does -/
def SVB (h h' : PH) (j a : Nat) : Prop :=
  (hr h 115 j ≠ 0 ∧ a = hr h 115 j ∧ hn h' = hn h ∨ hr h 115 j = 0 ∧ a = hn h ∧ hn h' = hn h + 14) ∧ (∀ r, r < hn h → r ≠ 115 → r ≠ 116 → ¬ (a ≤ r ∧ r < a + 14) → SC h h' r) ∧ RW1 h h' 115 j a ∧
  h'.2.1 116 = h.2.1 116 ∧ ∀ k, hi h' 116 k = if k = j then 1 else hi h 116 k
theorem S_X6_save {d nx : Nat} {h : PH} {B A : Nat} {EP E D : Nat → Int → Int} {s : Int → Int} {N : Int} {j : Int} {Q : Int → PH → Prop} {X : Nat → PH → Prop} (T : FT h B A EP E D s) (W : WD D s N) (dAB : DAB A B) (PS : PSS h D) (n141 : 141 ≤ hn h) (RM : RR h D nx (D 0 14).toNat N) (hvj : InR j)
    (H : ∀ h' a F, ck (tL D) j 0 (1) 2 = 0 → SVB h h' j.toNat a → RMK h' a F → HR F (D 0 2) (D 0 3) s → (141 ≤ a ∧ a + 14 ≤ hn h') → Q (s 0) h') (HX : ∀ e n', (ck (tL D) j 0 (1) 2 = 1 ∧ e = 0 ∨ ck (tL D) j 0 (1) 2 = 2 ∧ e = 2) → hn h ≤ n' → X e (hup h n')) : RUN GQ (d + 7) m_X6_save [pA 64, pI j] h Q X := by
  obtain ⟨w1, w2, w3, wN, ws1, wI⟩ := id W
  have kL := tL_or D
  have k1 := ck_or (tL D) j 0 (1) 2
  obtain ⟨⟨p12, p13⟩, hw5, hw6, pj⟩ := PS
  have dA := dAB.1
  rw [e_X6_save]
  refine WP.of (RUN.mono GQ _) (cuts := []) (n := 400) (v_X6_save_0 _ _ _ _ _ ?_)
  refine ⟨T.k, ⟨by omega, by omega⟩, ?_⟩
  refine S_X6_needHall T (fun c0 => ?_) (fun c0 n' l => HX 0 n' (Or.inl ⟨by omega, rfl⟩) l)
  obtain ⟨I, V, sw⟩ := wI c0
  have R := (T.u c0).1
  refine ⟨hvj, fun c1 => ⟨⟨by omega, by omega⟩, ?_⟩, fun c1 => ⟨hvj, ir (by omega) (by omega), fun c2 => ⟨⟨by omega, by omega⟩, ?_⟩, fun c2 => ⟨⟨by omega, by omega⟩, ?_⟩⟩⟩
  · exact S_X6_needIndex (Or.inl rfl) (fun z => absurd rfl z) (fun _ n' l => HX 2 n' (Or.inr ⟨by omega, rfl⟩) l)
  · refine S_X6_needIndex (Or.inr rfl) (fun _ => ?_) (fun z => absurd (by decide) z)
    refine ⟨T.k, ⟨by omega, by omega⟩, ?_⟩
    rw [p12]
    refine S_X6_roomAt (n := 2) hw5 ⟨c1, by omega⟩ (by omega) (by omega) (by omega) (fun h1 a ra => ?_)
    rw [Int.toNat_natCast]
    have key : (∃ F, RMK h1 a F) ∧ (∀ r, r < hn h → r ≠ 115 → SC h h1 r) ∧ RW1 h h1 115 j.toNat a ∧ (141 ≤ a ∧ a + 14 ≤ hn h1) ∧ (hr h 115 j.toNat ≠ 0 ∧ a = hr h 115 j.toNat ∧ hn h1 = hn h ∨ hr h 115 j.toNat = 0 ∧ a = hn h ∧ hn h1 = hn h + 14) := by
      rcases ra with ⟨r1, r2, r3⟩ | ⟨r1, r2, r3, r4, r5, r6⟩
      · subst r3
        have e1 : rho h1 (8 + j.toNat) = hr h1 115 j.toNat := by
          unfold rho
          rw [if_neg (by omega), show 8 + j.toNat - 8 = j.toNat by omega]
        rcases RM.1 (8 + j.toNat) (by omega) with q1 | ⟨q1, q2, F, q3, q4⟩
        · rw [e1] at q1; exact absurd q1 r1
        · rw [e1, ← r2] at q1 q2 q3
          exact ⟨⟨F, q3⟩, fun r _ _ => SC.refl _ r, ⟨rfl, fun _ => rfl, fun f => by
            by_cases z : f = j.toNat
            · rw [if_pos z, z, r2]
            · rw [if_neg z]⟩, ⟨q1, q2⟩, Or.inl ⟨r1, r2, rfl⟩⟩
      · rw [← r2] at r5 r6
        exact ⟨r6, r4, r5, ⟨by omega, by omega⟩, Or.inr ⟨r1, r2, r3⟩⟩
    obtain ⟨⟨F, rm⟩, S1, rw1, ra2, ra3⟩ := key
    have s64 := S1 64 (by omega) (by omega)
    have MA1 : Hx A h1 h1 E := T.M.sc (fun r a1 a2 => S1 r (by omega) (by omega)) rH_lt
    refine ⟨s64.k.trans T.k, rm.1.k 0 (by decide) rfl, ?_⟩
    rw [(s64.2 6).2, T.r6]
    have qc : ∀ p, 0 ≤ p → p < 6 → s (115 + p) ≤ 13 := fun p x y => by have := I.qn ⟨x, y⟩; have := I.hq.1; omega
    have sc : ∀ p, 0 ≤ p → p < 6 → s (511 + p) ≤ 4 := fun p x y => (I.sn ⟨x, y⟩).2
    refine S_X0_copyFrom rm.1 MA1 (by omega) (fun x h2 e2 M2 => ?_)
    have R2 := cpE_HR (E := F) R rm.2.1 rm.2.2 qc sc sw
    have T64 : SC h1 h2 64 := M2.2.1.sc (by omega)
    have T116 : SC h h2 116 := (S1 116 (by omega) (by omega)).trans (M2.2.1.sc (by omega))
    have k64 : hk h2 64 = 7 := T64.k.trans (s64.k.trans T.k)
    have e13 : hr h2 64 13 = 116 := ((T64.2 13).2).trans (((s64.2 13).2).trans p13)
    have n2 : hn h2 = hn h1 := M2.2.1.1
    rw [e13]
    refine ⟨k64, T116.k.trans hw6.1, ⟨c1, by rw [T116.l, hw6.2]; exact c2⟩, Or.inr rfl, fun h3 q3 => ?_⟩
    have S3 : ∀ r, r ≠ 116 → SC h2 h3 r := fun r hr' => by rw [q3]; exact ⟨rfl, fun k => ⟨by rw [hi_hsi, if_neg (by omega)], rfl⟩⟩
    have S364 := S3 64 (by omega)
    have MA3 : Hx A h3 h3 E := T.M.sc (fun r a1 a2 => ((S1 r (by omega) (by omega)).trans (M2.2.1.sc (by omega))).trans (S3 r (by omega))) rH_lt
    have e6 : hr h3 64 6 = A := ((S364.2 6).2).trans (((T64.2 6).2).trans (((s64.2 6).2).trans T.r6))
    rw [e6]
    refine ⟨S364.k.trans k64, MA3.k 0 (by decide) rfl, ?_⟩
    have v : hi h3 A 10 = s 0 := (MA3.f10 0 (by decide)).trans R.fl.2.1
    rw [v]
    refine H h3 a (cpE E F) (by omega) ⟨?_, fun r x1 x2 x3 x4 => ?_, ?_, ?_, fun k => ?_⟩ ?_ R2 ?_
    · rw [q3]
      show hr h 115 j.toNat ≠ 0 ∧ a = hr h 115 j.toNat ∧ hn h2 = hn h ∨ hr h 115 j.toNat = 0 ∧ a = hn h ∧ hn h2 = hn h + 14
      rw [n2]; exact ra3
    · exact ((S1 r x1 x2).trans (M2.2.1.sc x4)).trans (S3 r x3)
    · have z : SC h1 h2 115 := M2.2.1.sc (by omega)
      have z2 := S3 115 (by omega)
      exact ⟨z2.1.trans (z.1.trans rw1.1), fun f => (z2.2 f).1.trans ((z.2 f).1.trans (rw1.2.1 f)), fun f => (z2.2 f).2.trans ((z.2 f).2.trans (rw1.2.2 f))⟩
    · rw [q3]; exact T116.1
    · rw [q3, hi_hsi]
      by_cases z : k = j.toNat
      · rw [if_pos ⟨rfl, z⟩, if_pos z]
      · rw [if_neg (fun y => z y.2), if_neg z]
        exact (T116.2 k).1
    · exact RMK.sc ⟨M2.now, by rw [cpE_6.1]; exact rm.2.1, by rw [cpE_6.2]; exact rm.2.2⟩ (fun r y z => S3 r (by omega))
    · rw [q3]
      show 141 ≤ a ∧ a + 14 ≤ hn h2
      rw [n2]; exact ra2
  · exact S_X6_needIndex (Or.inl rfl) (fun z => absurd rfl z) (fun _ n' l => HX 2 n' (Or.inr ⟨by omega, rfl⟩) l)
