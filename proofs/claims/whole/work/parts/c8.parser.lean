/-! a parser is made -/
section PIV4
variable {call : PC} {mc ms fr : Nat} {Q : Int → PH → Prop} {X : Nat → PH → Prop} {K : PK}
set_option maxRecDepth 100000 in
theorem v_X4_init_0 (a0 : Nat) (a1 : Nat) (i2 : Int) (a3 : Nat) (a4 : Nat) (h : PH) (c s : Nat) (H : a0 ≠ 0 ∧ hk h a0 = 5 ∧ ∀ h1, h1 = hsi h a0 10 ((-1)) →
 hk h1 a0 = 5 ∧ ∀ h2, h2 = hsr h1 a0 0 a1 →
 (20 ≤ hk h2 a1 ∧ hk h2 a1 ≤ 26) ∧ InR i2 ∧ InR ((hl h2 a1 : Int)) ∧ (i2 < ((hl h2 a1 : Int)) →
 hk h2 a0 = 5 ∧ ∀ h3, h3 = hsi h2 a0 1 i2 →
 hk h3 a0 = 5 ∧ ∀ h4, h4 = hsr h3 a0 2 a3 →
 hk h4 a0 = 5 ∧ ∀ h5, h5 = hsr h4 a0 3 a4 →
 Q 0 h5) ∧
(((hl h2 a1 : Int)) ≤ i2 →
 (20 ≤ hk h2 a1 ∧ hk h2 a1 ≤ 26) ∧ hk h2 a0 = 5 ∧ ∀ h6, h6 = hsi h2 a0 1 ((hl h2 a1 : Int)) →
 hk h6 a0 = 5 ∧ ∀ h7, h7 = hsr h6 a0 2 a3 →
 hk h7 a0 = 5 ∧ ∀ h8, h8 = hsr h7 a0 3 a4 →
 Q 0 h8)) : wpc k_X4_init [] call mc ms fr Q X [] K 400 (pto 0 k_X4_init) [some (pA a0), some (pA a1), some (pI i2), some (pA a3), some (pA a4)] [] h c s :=
  H

end PIV4
theorem S_X4_init {d a a1 a3 a4 : Nat} {h0 h : PH} {n : Int} {Q : Int → PH → Prop} {X : Nat → PH → Prop} (A : AL h0 h a 1 kS lS (fun _ _ => 0) (fun _ _ => 0)) (ha : a ≠ 0) (ha1 : a1 < a) (F : hk h0 a1 = 21 ∧ hl h0 a1 = 700) (hn' : 0 ≤ n ∧ n ≤ 700)
    (H : ∀ h', AL h0 h' a 1 kS lS (dst (dst (fun _ _ => 0) 0 10 (-1)) 0 1 n) (vst (vst (vst (fun _ _ => 0) 0 0 a1) 0 2 a3) 0 3 a4) → Q 0 h') : RUN GQ (d + 1) m_X4_init [pA a, pA a1, pI n, pA a3, pA a4] h Q X := by
  rw [e_X4_init]
  refine WP.of (RUN.mono GQ _) (cuts := []) (n := 400) (v_X4_init_0 _ _ _ _ _ _ _ _ ?_)
  refine ⟨ha, A.pi 0 10 5 (by decide) rfl (fun h1 A1 => A1.pr 0 0 a1 5 (by decide) rfl (fun h2 A2 => ?_))⟩
  have s1 := A2.2.1 a1 ha1
  have k1 : hk h2 a1 = 21 := s1.k.trans F.1
  have l1 : hl h2 a1 = 700 := s1.l.trans F.2
  rw [k1, l1]
  refine ⟨by omega, ir (by omega) (by omega), ir (by omega) (by omega), fun c => A2.pi 0 1 5 (by decide) rfl (fun h3 A3 => A3.pr 0 2 a3 5 (by decide) rfl (fun h4 A4 => A4.pr 0 3 a4 5 (by decide) rfl (fun h5 A5 => H h5 A5))), fun c => ⟨by omega, ?_⟩⟩
  have e : ((700 : Nat) : Int) = n := by omega
  rw [e]
  exact A2.pi 0 1 5 (by decide) rfl (fun h3 A3 => A3.pr 0 2 a3 5 (by decide) rfl (fun h4 A4 => A4.pr 0 3 a4 5 (by decide) rfl (fun h5 A5 => H h5 A5)))
