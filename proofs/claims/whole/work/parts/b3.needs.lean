/-! the class's checks (written by wip/whole/tools/eng.py) -/
section VCS
variable {call : PC} {mc ms fr : Nat} {Q : Int → PH → Prop} {X : Nat → PH → Prop} {K : PK}
set_option maxRecDepth 100000 in
theorem v_X6_needHall_0 (a0 : Nat) (h : PH) (c s : Nat) (H : hk h a0 = 7 ∧ InR (hi h a0 4) ∧ ((hi h a0 4) = 0 →
 6 ≤ fr ∧ (c + 1 ≤ mc ∧ s + 6 ≤ ms) ∧ ∀ n', hn h ≤ n' → X 0 (hup h n')) ∧
((hi h a0 4) ≠ 0 →
 Q 0 h)) : wpc k_X6_needHall [] call mc ms fr Q X [] K 400 (pto 0 k_X6_needHall) [some (pA a0)] [] h c s :=
  H
set_option maxRecDepth 100000 in
theorem v_X6_needIndex_0 (i0 : Int) (h : PH) (c s : Nat) (H : InR i0 ∧ (i0 = 0 →
 6 ≤ fr ∧ (c + 1 ≤ mc ∧ s + 6 ≤ ms) ∧ ∀ n', hn h ≤ n' → X 2 (hup h n')) ∧
(i0 ≠ 0 →
 Q 0 h)) : wpc k_X6_needIndex [] call mc ms fr Q X [] K 400 (pto 0 k_X6_needIndex) [some (pI i0)] [] h c s :=
  H
set_option maxRecDepth 100000 in
theorem v_X6_needArgument_0 (i0 : Int) (h : PH) (c s : Nat) (H : InR i0 ∧ (i0 = 0 →
 6 ≤ fr ∧ (c + 1 ≤ mc ∧ s + 6 ≤ ms) ∧ ∀ n', hn h ≤ n' → X 1 (hup h n')) ∧
(i0 ≠ 0 →
 Q 0 h)) : wpc k_X6_needArgument [] call mc ms fr Q X [] K 400 (pto 0 k_X6_needArgument) [some (pI i0)] [] h c s :=
  H
set_option maxRecDepth 100000 in
theorem v_X6_needState_0 (i0 : Int) (h : PH) (c s : Nat) (H : InR i0 ∧ (i0 = 0 →
 6 ≤ fr ∧ (c + 1 ≤ mc ∧ s + 6 ≤ ms) ∧ ∀ n', hn h ≤ n' → X 0 (hup h n')) ∧
(i0 ≠ 0 →
 Q 0 h)) : wpc k_X6_needState [] call mc ms fr Q X [] K 400 (pto 0 k_X6_needState) [some (pI i0)] [] h c s :=
  H
set_option maxRecDepth 100000 in
theorem v_X6_needKind_0 (a0 : Nat) (i1 : Int) (h : PH) (c s : Nat) (H : InR i1 ∧ (i1 < 0 →
 (c + 1 ≤ mc ∧ s + 6 ≤ ms) ∧ call m_X6_needIndex [pI 0] h (fun _ h1 =>
 Q 0 h1) X) ∧
(0 ≤ i1 →
 hk h a0 = 7 ∧ hk h (hr h a0 5) = 6 ∧ hk h (hr h (hr h a0 5) 0) = 3 ∧ InR i1 ∧ InR (hi h (hr h (hr h a0 5) 0) 2) ∧ (i1 < (hi h (hr h (hr h a0 5) 0) 2) →
 (c + 1 ≤ mc ∧ s + 6 ≤ ms) ∧ call m_X6_needIndex [pI 1] h (fun _ h2 =>
 Q 0 h2) X) ∧
((hi h (hr h (hr h a0 5) 0) 2) ≤ i1 →
 (c + 1 ≤ mc ∧ s + 6 ≤ ms) ∧ call m_X6_needIndex [pI 0] h (fun _ h3 =>
 Q 0 h3) X))) : wpc k_X6_needKind [] call mc ms fr Q X [] K 400 (pto 0 k_X6_needKind) [some (pA a0), some (pI i1)] [] h c s :=
  H
set_option maxRecDepth 100000 in
theorem v_X6_needProgram_0 (a0 : Nat) (i1 : Int) (h : PH) (c s : Nat) (H : InR i1 ∧ (i1 < 0 →
 (c + 1 ≤ mc ∧ s + 6 ≤ ms) ∧ call m_X6_needIndex [pI 0] h (fun _ h1 =>
 Q 0 h1) X) ∧
(0 ≤ i1 →
 hk h a0 = 7 ∧ hk h (hr h a0 5) = 6 ∧ hk h (hr h (hr h a0 5) 1) = 3 ∧ InR i1 ∧ InR (hi h (hr h (hr h a0 5) 1) 2) ∧ (i1 < (hi h (hr h (hr h a0 5) 1) 2) →
 (c + 1 ≤ mc ∧ s + 6 ≤ ms) ∧ call m_X6_needIndex [pI 1] h (fun _ h2 =>
 Q 0 h2) X) ∧
((hi h (hr h (hr h a0 5) 1) 2) ≤ i1 →
 (c + 1 ≤ mc ∧ s + 6 ≤ ms) ∧ call m_X6_needIndex [pI 0] h (fun _ h3 =>
 Q 0 h3) X))) : wpc k_X6_needProgram [] call mc ms fr Q X [] K 400 (pto 0 k_X6_needProgram) [some (pA a0), some (pI i1)] [] h c s :=
  H
set_option maxRecDepth 100000 in
theorem v_X6_needSignal_0 (a0 : Nat) (i1 : Int) (h : PH) (c s : Nat) (H : InR i1 ∧ (i1 < 0 →
 (c + 1 ≤ mc ∧ s + 6 ≤ ms) ∧ call m_X6_needIndex [pI 0] h (fun _ h1 =>
 Q 0 h1) X) ∧
(0 ≤ i1 →
 hk h a0 = 7 ∧ hk h (hr h a0 6) = 1 ∧ InR i1 ∧ InR (hi h (hr h a0 6) 11) ∧ (i1 < (hi h (hr h a0 6) 11) →
 (c + 1 ≤ mc ∧ s + 6 ≤ ms) ∧ call m_X6_needIndex [pI 1] h (fun _ h2 =>
 Q 0 h2) X) ∧
((hi h (hr h a0 6) 11) ≤ i1 →
 (c + 1 ≤ mc ∧ s + 6 ≤ ms) ∧ call m_X6_needIndex [pI 0] h (fun _ h3 =>
 Q 0 h3) X))) : wpc k_X6_needSignal [] call mc ms fr Q X [] K 400 (pto 0 k_X6_needSignal) [some (pA a0), some (pI i1)] [] h c s :=
  H
end VCS
theorem S_X6_needHall {d : Nat} {h : PH} {B A : Nat} {EP E D : Nat → Int → Int} {s : Int → Int} {Q : Int → PH → Prop} {X : Nat → PH → Prop} (T : FT h B A EP E D s)  (H : D 0 1 ≠ 0 → Q 0 h) (HX : ¬ (D 0 1 ≠ 0) → ∀ n', hn h ≤ n' → X 0 (hup h n')) : RUN GQ (d + 6) m_X6_needHall [pA 64] h Q X := by
  have l01 := T.l01
  rw [e_X6_needHall]
  refine WP.of (RUN.mono GQ _) (cuts := []) (n := 400) (v_X6_needHall_0 _ _ _ _ ?_)
  refine ⟨T.k, ?_⟩
  rw [T.f4]
  refine ⟨ir (by omega) (by omega), fun c4 => ?_, fun c4 => ?_⟩
  · refine ⟨by omega, ⟨by omega, by omega⟩, fun n7 l7 => ?_⟩
    exact HX (by omega) _ l7
  · exact H (by omega)
theorem S_X6_needIndex {d : Nat} {h : PH} {Q : Int → PH → Prop} {X : Nat → PH → Prop} {z : Int}  (hz : z = 0 ∨ z = 1) (H : z ≠ 0 → Q 0 h) (HX : ¬ (z ≠ 0) → ∀ n', hn h ≤ n' → X 2 (hup h n')) : RUN GQ (d + 6) m_X6_needIndex [pI z] h Q X := by
  rw [e_X6_needIndex]
  refine WP.of (RUN.mono GQ _) (cuts := []) (n := 400) (v_X6_needIndex_0 _ _ _ _ ?_)
  refine ⟨ir (by omega) (by omega), fun c1 => ?_, fun c1 => ?_⟩
  · refine ⟨by omega, ⟨by omega, by omega⟩, fun n4 l4 => ?_⟩
    exact HX (by omega) _ l4
  · exact H (by omega)
theorem S_X6_needArgument {d : Nat} {h : PH} {Q : Int → PH → Prop} {X : Nat → PH → Prop} {z : Int}  (hz : z = 0 ∨ z = 1) (H : z ≠ 0 → Q 0 h) (HX : ¬ (z ≠ 0) → ∀ n', hn h ≤ n' → X 1 (hup h n')) : RUN GQ (d + 6) m_X6_needArgument [pI z] h Q X := by
  rw [e_X6_needArgument]
  refine WP.of (RUN.mono GQ _) (cuts := []) (n := 400) (v_X6_needArgument_0 _ _ _ _ ?_)
  refine ⟨ir (by omega) (by omega), fun c1 => ?_, fun c1 => ?_⟩
  · refine ⟨by omega, ⟨by omega, by omega⟩, fun n4 l4 => ?_⟩
    exact HX (by omega) _ l4
  · exact H (by omega)
theorem S_X6_needState {d : Nat} {h : PH} {Q : Int → PH → Prop} {X : Nat → PH → Prop} {z : Int}  (hz : z = 0 ∨ z = 1) (H : z ≠ 0 → Q 0 h) (HX : ¬ (z ≠ 0) → ∀ n', hn h ≤ n' → X 0 (hup h n')) : RUN GQ (d + 6) m_X6_needState [pI z] h Q X := by
  rw [e_X6_needState]
  refine WP.of (RUN.mono GQ _) (cuts := []) (n := 400) (v_X6_needState_0 _ _ _ _ ?_)
  refine ⟨ir (by omega) (by omega), fun c1 => ?_, fun c1 => ?_⟩
  · refine ⟨by omega, ⟨by omega, by omega⟩, fun n4 l4 => ?_⟩
    exact HX (by omega) _ l4
  · exact H (by omega)
theorem S_X6_needKind {d : Nat} {h : PH} {B A : Nat} {EP E D : Nat → Int → Int} {s : Int → Int} {Q : Int → PH → Prop} {X : Nat → PH → Prop} {k : Int} (T : FT h B A EP E D s) (U : PT EP D) (V : PIv D) (hv : InR k) (H : 0 ≤ k ∧ k < D 0 3 → Q 0 h) (HX : ¬ (0 ≤ k ∧ k < D 0 3) → ∀ n', hn h ≤ n' → X 2 (hup h n')) : RUN GQ (d + 7) m_X6_needKind [pA 64, pI k] h Q X := by
  obtain ⟨v2, v3, v4, vh⟩ := id V
  have L := T.L
  rw [e_X6_needKind]
  refine WP.of (RUN.mono GQ _) (cuts := []) (n := 400) (v_X6_needKind_0 _ _ _ _ _ ?_)
  refine ⟨ir (by omega) (by omega), fun c1 => ?_, fun c1 => ?_⟩
  · refine ⟨⟨by omega, by omega⟩, ?_⟩
    refine S_X6_needIndex (by omega) (fun c23 => ?_) (fun c23 n23 l23 => ?_)
    · exact absurd rfl c23
    · exact HX (by omega) _ l23
  · refine ⟨T.k, ?_⟩
    rw [T.r5]
    refine ⟨Bx.k L 0 (by decide) rfl, ?_⟩
    try rw [show hr h B 0 = B + 1 from Bx.r L 0 0 1 (by decide)]
    refine ⟨Bx.k L 1 (by decide) rfl, ?_⟩
    try rw [show hi h (B + 1) 2 = _ from Bx.f2 L 1 (by decide)]
    rw [U.k]
    refine ⟨ir (by omega) (by omega), ir (by omega) (by omega), fun c15 => ?_, fun c15 => ?_⟩
    · refine ⟨⟨by omega, by omega⟩, ?_⟩
      refine S_X6_needIndex (by omega) (fun c23 => ?_) (fun c23 n23 l23 => ?_)
      · exact H (by omega)
      · exact absurd c23 (by decide)
    · refine ⟨⟨by omega, by omega⟩, ?_⟩
      refine S_X6_needIndex (by omega) (fun c23 => ?_) (fun c23 n23 l23 => ?_)
      · exact absurd rfl c23
      · exact HX (by omega) _ l23
theorem S_X6_needProgram {d : Nat} {h : PH} {B A : Nat} {EP E D : Nat → Int → Int} {s : Int → Int} {Q : Int → PH → Prop} {X : Nat → PH → Prop} {p : Int} (T : FT h B A EP E D s) (U : PT EP D) (V : PIv D) (hv : InR p) (H : 0 ≤ p ∧ p < D 0 4 → Q 0 h) (HX : ¬ (0 ≤ p ∧ p < D 0 4) → ∀ n', hn h ≤ n' → X 2 (hup h n')) : RUN GQ (d + 7) m_X6_needProgram [pA 64, pI p] h Q X := by
  obtain ⟨v2, v3, v4, vh⟩ := id V
  have L := T.L
  rw [e_X6_needProgram]
  refine WP.of (RUN.mono GQ _) (cuts := []) (n := 400) (v_X6_needProgram_0 _ _ _ _ _ ?_)
  refine ⟨ir (by omega) (by omega), fun c1 => ?_, fun c1 => ?_⟩
  · refine ⟨⟨by omega, by omega⟩, ?_⟩
    refine S_X6_needIndex (by omega) (fun c23 => ?_) (fun c23 n23 l23 => ?_)
    · exact absurd rfl c23
    · exact HX (by omega) _ l23
  · refine ⟨T.k, ?_⟩
    rw [T.r5]
    refine ⟨Bx.k L 0 (by decide) rfl, ?_⟩
    try rw [show hr h B 1 = B + 4 from Bx.r L 0 1 4 (by decide)]
    refine ⟨Bx.k L 4 (by decide) rfl, ?_⟩
    try rw [show hi h (B + 4) 2 = _ from Bx.f2 L 4 (by decide)]
    rw [U.p]
    refine ⟨ir (by omega) (by omega), ir (by omega) (by omega), fun c15 => ?_, fun c15 => ?_⟩
    · refine ⟨⟨by omega, by omega⟩, ?_⟩
      refine S_X6_needIndex (by omega) (fun c23 => ?_) (fun c23 n23 l23 => ?_)
      · exact H (by omega)
      · exact absurd c23 (by decide)
    · refine ⟨⟨by omega, by omega⟩, ?_⟩
      refine S_X6_needIndex (by omega) (fun c23 => ?_) (fun c23 n23 l23 => ?_)
      · exact absurd rfl c23
      · exact HX (by omega) _ l23
theorem S_X6_needSignal {d : Nat} {h : PH} {B A : Nat} {EP E D : Nat → Int → Int} {s : Int → Int} {Q : Int → PH → Prop} {X : Nat → PH → Prop} {g : Int} (T : FT h B A EP E D s) (R : HR E (D 0 2) (D 0 3) s) (hs1 : InR (s 1)) (hv : InR g) (H : 0 ≤ g ∧ g < s 1 → Q 0 h) (HX : ¬ (0 ≤ g ∧ g < s 1) → ∀ n', hn h ≤ n' → X 2 (hup h n')) : RUN GQ (d + 7) m_X6_needSignal [pA 64, pI g] h Q X := by
  have M := T.M
  have r11 := R.fl.2.2.1
  rw [e_X6_needSignal]
  refine WP.of (RUN.mono GQ _) (cuts := []) (n := 400) (v_X6_needSignal_0 _ _ _ _ _ ?_)
  refine ⟨ir (by omega) (by omega), fun c1 => ?_, fun c1 => ?_⟩
  · refine ⟨⟨by omega, by omega⟩, ?_⟩
    refine S_X6_needIndex (by omega) (fun c20 => ?_) (fun c20 n20 l20 => ?_)
    · exact absurd rfl c20
    · exact HX (by omega) _ l20
  · refine ⟨T.k, ?_⟩
    rw [T.r6]
    refine ⟨Bx.k M 0 (by decide) rfl, ?_⟩
    try rw [show hi h A 11 = _ from Bx.f11 M 0 (by decide)]
    rw [r11]
    refine ⟨ir (by omega) (by omega), ir (by omega) (by omega), fun c12 => ?_, fun c12 => ?_⟩
    · refine ⟨⟨by omega, by omega⟩, ?_⟩
      refine S_X6_needIndex (by omega) (fun c20 => ?_) (fun c20 n20 l20 => ?_)
      · exact H (by omega)
      · exact absurd c20 (by decide)
    · refine ⟨⟨by omega, by omega⟩, ?_⟩
      refine S_X6_needIndex (by omega) (fun c20 => ?_) (fun c20 n20 l20 => ?_)
      · exact absurd rfl c20
      · exact HX (by omega) _ l20
