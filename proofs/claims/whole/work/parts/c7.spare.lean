/-! the spare plan and hall are taken -/
section TSV
variable {call : PC} {mc ms fr : Nat} {Q : Int → PH → Prop} {X : Nat → PH → Prop} {K : PK}
set_option maxRecDepth 100000 in
theorem v_X6_takeSpare_0 (a0 : Nat) (z1 : Option PV) (z2 : Option PV) (z3 : Option PV) (h : PH) (c s : Nat) (H : hk h a0 = 7 ∧ hk h a0 = 7 ∧ hk h a0 = 7 ∧ ∀ h1, h1 = hsr h a0 5 (hr h a0 7) →
 hk h1 a0 = 7 ∧ ∀ h2, h2 = hsr h1 a0 7 (hr h a0 5) →
 hk h2 a0 = 7 ∧ hk h2 a0 = 7 ∧ hk h2 a0 = 7 ∧ ∀ h3, h3 = hsr h2 a0 6 (hr h2 a0 8) →
 hk h3 a0 = 7 ∧ ∀ h4, h4 = hsr h3 a0 8 (hr h2 a0 6) →
 hk h4 a0 = 7 ∧ ((1 : Int) = 0 ∨ (1 : Int) = 1) ∧ ∀ h5, h5 = hsi h4 a0 4 1 →
 hk h5 a0 = 7 ∧ ∀ h6, h6 = hsi h5 a0 11 0 →
 K 48 [some (pA a0), some (pA (hr h a0 5)), some (pA (hr h2 a0 6)), some (pI 0)] [] h6 c s) : wpc k_X6_takeSpare [] call mc ms fr Q X [48] K 400 (pto 0 k_X6_takeSpare) [some (pA a0), z1, z2, z3] [] h c s :=
  H

set_option maxRecDepth 100000 in
theorem v_X6_takeSpare_48 (a0 : Nat) (a1 : Nat) (a2 : Nat) (i3 : Int) (h : PH) (c s : Nat) (H : InR i3 ∧ InR 2 ∧ (i3 < 2 →
 hk h a0 = 7 ∧ hk h (hr h a0 13) = 22 ∧ (0 ≤ i3 ∧ i3 < (hl h (hr h a0 13) : Int)) ∧ ((0 : Int) = 0 ∨ (0 : Int) = 1) ∧ ∀ h1, h1 = hsi h (hr h a0 13) (Int.toNat i3) 0 →
 K 48 [some (pA a0), some (pA a1), some (pA a2), some (pI (i3 + 1))] [] h1 c s) ∧
(2 ≤ i3 →
 Q 0 h)) : wpc k_X6_takeSpare [] call mc ms fr Q X [48] K 400 (pto 48 k_X6_takeSpare) [some (pA a0), some (pA a1), some (pA a2), some (pI i3)] [] h c s :=
  H

end TSV
theorem hr_hsr (h : PH) (r i v r' k : Nat) : hr (hsr h r i v) r' k = if r' = r ∧ k = i then v else hr h r' k := rfl
def TSP (h h' : PH) (B A B2 A2 : Nat) : Prop := (∀ r, r ≠ 64 → r ≠ 116 → SC h h' r) ∧ hn h' = hn h ∧ h'.2.1 = h.2.1 ∧ (hr h' 64 5 = B2 ∧ hr h' 64 7 = B ∧ hr h' 64 6 = A2 ∧ hr h' 64 8 = A) ∧ (∀ k, k < 5 ∨ 8 < k → hr h' 64 k = hr h 64 k) ∧ (hi h' 64 4 = 1 ∧ hi h' 64 11 = 0) ∧ (∀ k, k ≠ 4 → k ≠ 11 → hi h' 64 k = hi h 64 k) ∧ hi h' 116 0 = 0 ∧ hi h' 116 1 = 0
theorem S_X6_takeSpare {d B A B2 A2 : Nat} {h : PH} {Q : Int → PH → Prop} {X : Nat → PH → Prop} (k7 : hk h 64 = 7) (r5 : hr h 64 5 = B) (r6 : hr h 64 6 = A) (r7 : hr h 64 7 = B2) (r8 : hr h 64 8 = A2) (r13 : hr h 64 13 = 116) (k16 : hk h 116 = 22 ∧ hl h 116 = 2) (H : ∀ h', TSP h h' B A B2 A2 → Q 0 h') : RUN GQ (d + 1) m_X6_takeSpare [pA 64] h Q X := by
  rw [e_X6_takeSpare]
  refine WP.of (RUN.mono GQ _) (cuts := [48]) (n := 400) (v_X6_takeSpare_0 _ _ _ _ _ _ _ ?_)
  rw [r5, r7]
  refine ⟨k7, k7, k7, fun h1 q1 => ?_⟩
  have k1 : hk h1 64 = 7 := by rw [q1]; exact k7
  refine ⟨k1, fun h2 q2 => ?_⟩
  have k2 : hk h2 64 = 7 := by rw [q2]; exact k1
  have e6 : hr h2 64 6 = A := by rw [q2, hr_hsr, if_neg (by omega), q1, hr_hsr, if_neg (by omega)]; exact r6
  have e8 : hr h2 64 8 = A2 := by rw [q2, hr_hsr, if_neg (by omega), q1, hr_hsr, if_neg (by omega)]; exact r8
  rw [e6, e8]
  refine ⟨k2, k2, k2, fun h3 q3 => ?_⟩
  have k3 : hk h3 64 = 7 := by rw [q3]; exact k2
  refine ⟨k3, fun h4 q4 => ?_⟩
  have k4 : hk h4 64 = 7 := by rw [q4]; exact k3
  refine ⟨k4, Or.inr rfl, fun h5 q5 => ?_⟩
  have k5 : hk h5 64 = 7 := by rw [q5]; exact k4
  refine ⟨k5, fun h6 q6 => ?_⟩
  have k6 : hk h6 64 = 7 := by rw [q6]; exact k5
  have t6 : h6.2.1 = h.2.1 := by rw [q6, q5, q4, q3, q2, q1]; rfl
  have n6 : hn h6 = hn h := by rw [q6, q5, q4, q3, q2, q1]; rfl
  have R6 : ∀ r k, hr h6 r k = if r = 64 ∧ k = 8 then A else if r = 64 ∧ k = 6 then A2 else if r = 64 ∧ k = 7 then B else if r = 64 ∧ k = 5 then B2 else hr h r k := fun r k => by rw [q6, q5, q4, q3, q2, q1]; rfl
  have I6 : ∀ r k, hi h6 r k = if r = 64 ∧ k = 11 then 0 else if r = 64 ∧ k = 4 then 1 else hi h r k := fun r k => by rw [q6, q5, q4, q3, q2, q1]; rfl
  have e13 : hr h6 64 13 = 116 := by rw [R6, if_neg (by omega), if_neg (by omega), if_neg (by omega), if_neg (by omega)]; exact r13
  have k16' : hk h6 116 = 22 ∧ hl h6 116 = 2 := by
    unfold hk hl
    rw [t6]
    exact k16
  refine WP.of (RUN.mono GQ _) (cuts := [48]) (n := 400) (v_X6_takeSpare_48 _ _ _ _ _ _ _ ?_)
  rw [e13]
  refine ⟨ir (by omega) (by omega), ir (by omega) (by omega), fun _ => ⟨k6, k16'.1, ⟨by omega, by rw [k16'.2]; omega⟩, Or.inl rfl, fun h7 q7 => ?_⟩, fun c => absurd c (by omega)⟩
  have e13' : hr h7 64 13 = 116 := by rw [q7]; exact e13
  refine WP.of (RUN.mono GQ _) (cuts := [48]) (n := 400) (v_X6_takeSpare_48 _ _ _ _ _ _ _ ?_)
  rw [e13']
  refine ⟨ir (by omega) (by omega), ir (by omega) (by omega), fun _ => ⟨by rw [q7]; exact k6, by rw [q7]; exact k16'.1, ⟨by omega, by rw [q7]; show ((0 : Int) + 1) < (hl h6 116 : Int); rw [k16'.2]; omega⟩, Or.inl rfl, fun h8 q8 => ?_⟩, fun c => absurd c (by omega)⟩
  refine WP.of (RUN.mono GQ _) (cuts := [48]) (n := 400) (v_X6_takeSpare_48 _ _ _ _ _ _ _ ?_)
  refine ⟨ir (by omega) (by omega), ir (by omega) (by omega), fun c => absurd c (by omega), fun _ => H h8 ?_⟩
  have R8 : ∀ r k, hr h8 r k = hr h6 r k := fun r k => by rw [q8, q7]; rfl
  have I8 : ∀ r k, hi h8 r k = if r = 116 ∧ k = 1 then 0 else if r = 116 ∧ k = 0 then 0 else hi h6 r k := fun r k => by rw [q8, q7]; rfl
  have t8 : h8.2.1 = h.2.1 := by rw [q8, q7]; exact t6
  refine ⟨fun r a a' => ⟨by rw [t8], fun k => ⟨?_, ?_⟩⟩, by rw [q8, q7]; exact n6, t8, ⟨?_, ?_, ?_, ?_⟩, fun k a => ?_, ⟨?_, ?_⟩, fun k a a' => ?_, ?_, ?_⟩
  · rw [I8, if_neg (by omega), if_neg (by omega), I6, if_neg (by omega), if_neg (by omega)]
  · rw [R8, R6, if_neg (by omega), if_neg (by omega), if_neg (by omega), if_neg (by omega)]
  · rw [R8, R6, if_neg (by omega), if_neg (by omega), if_neg (by omega), if_pos (by omega)]
  · rw [R8, R6, if_neg (by omega), if_neg (by omega), if_pos (by omega)]
  · rw [R8, R6, if_neg (by omega), if_pos (by omega)]
  · rw [R8, R6, if_pos (by omega)]
  · rw [R8, R6, if_neg (by omega), if_neg (by omega), if_neg (by omega), if_neg (by omega)]
  · rw [I8, if_neg (by omega), if_neg (by omega), I6, if_neg (by omega), if_pos (by omega)]
  · rw [I8, if_neg (by omega), if_neg (by omega), I6, if_pos (by omega)]
  · rw [I8, if_neg (by omega), if_neg (by omega), I6, if_neg (by omega), if_neg (by omega)]
  · rw [I8, if_neg (by omega), if_pos (by omega)]
  · rw [I8, if_pos (by omega)]
