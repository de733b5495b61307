/-! the class's hall: copies (written by wip/whole/tools/eng.py) -/
section VCS
variable {call : PC} {mc ms fr : Nat} {Q : Int → PH → Prop} {X : Nat → PH → Prop} {K : PK}
set_option maxRecDepth 100000 in
theorem v_X0_copyRow_0 (a0 : Nat) (a1 : Nat) (h : PH) (c s : Nat) (H : (20 ≤ hk h a0 ∧ hk h a0 ≤ 26) ∧ (20 ≤ hk h a1 ∧ hk h a1 ≤ 26) ∧ InR ((hl h a0 : Int)) ∧ InR ((hl h a1 : Int)) ∧ (hk h a0 = 20 ∧ hk h a1 = 20 ∧ a0 ≠ a1) ∧ (0 ≤ (0 : Int) ∧ 0 ≤ (0 : Int) ∧ 0 ≤ (if ((hl h a0 : Int)) ≤ ((hl h a1 : Int)) then ((hl h a0 : Int)) else ((hl h a1 : Int))) ∧ (0 : Int) + (if ((hl h a0 : Int)) ≤ ((hl h a1 : Int)) then ((hl h a0 : Int)) else ((hl h a1 : Int))) ≤ hl h a0 ∧ (0 : Int) + (if ((hl h a0 : Int)) ≤ ((hl h a1 : Int)) then ((hl h a0 : Int)) else ((hl h a1 : Int))) ≤ hl h a1) ∧ ∀ h1, h1 = hcp h a0 (Int.toNat (0 : Int)) a1 (Int.toNat (0 : Int)) (Int.toNat ((if ((hl h a0 : Int)) ≤ ((hl h a1 : Int)) then ((hl h a0 : Int)) else ((hl h a1 : Int))))) →
 Q 0 h1) : wpc k_X0_copyRow [] call mc ms fr Q X [] K 400 (pto 0 k_X0_copyRow) [some (pA a0), some (pA a1)] [] h c s :=
  H
set_option maxRecDepth 100000 in
theorem v_X1_copyFrom_0 (a0 : Nat) (a1 : Nat) (h : PH) (c s : Nat) (H : hk h a1 = 2 ∧ hk h a0 = 2 ∧ hk h a1 = 2 ∧ (20 ≤ hk h (hr h a1 1) ∧ hk h (hr h a1 1) ≤ 26) ∧ hk h a0 = 2 ∧ (20 ≤ hk h (hr h a0 1) ∧ hk h (hr h a0 1) ≤ 26) ∧ InR ((hl h (hr h a1 1) : Int)) ∧ InR ((hl h (hr h a0 1) : Int)) ∧ (hk h (hr h a1 1) = 20 ∧ hk h (hr h a0 1) = 20 ∧ (hr h a1 1) ≠ (hr h a0 1)) ∧ (0 ≤ (0 : Int) ∧ 0 ≤ (0 : Int) ∧ 0 ≤ (if ((hl h (hr h a1 1) : Int)) ≤ ((hl h (hr h a0 1) : Int)) then ((hl h (hr h a1 1) : Int)) else ((hl h (hr h a0 1) : Int))) ∧ (0 : Int) + (if ((hl h (hr h a1 1) : Int)) ≤ ((hl h (hr h a0 1) : Int)) then ((hl h (hr h a1 1) : Int)) else ((hl h (hr h a0 1) : Int))) ≤ hl h (hr h a1 1) ∧ (0 : Int) + (if ((hl h (hr h a1 1) : Int)) ≤ ((hl h (hr h a0 1) : Int)) then ((hl h (hr h a1 1) : Int)) else ((hl h (hr h a0 1) : Int))) ≤ hl h (hr h a0 1)) ∧ ∀ h1, h1 = hcp h (hr h a1 1) (Int.toNat (0 : Int)) (hr h a0 1) (Int.toNat (0 : Int)) (Int.toNat ((if ((hl h (hr h a1 1) : Int)) ≤ ((hl h (hr h a0 1) : Int)) then ((hl h (hr h a1 1) : Int)) else ((hl h (hr h a0 1) : Int))))) →
 hk h1 a1 = 2 ∧ hk h1 a0 = 2 ∧ hk h1 a1 = 2 ∧ (20 ≤ hk h1 (hr h1 a1 2) ∧ hk h1 (hr h1 a1 2) ≤ 26) ∧ hk h1 a0 = 2 ∧ (20 ≤ hk h1 (hr h1 a0 2) ∧ hk h1 (hr h1 a0 2) ≤ 26) ∧ InR ((hl h1 (hr h1 a1 2) : Int)) ∧ InR ((hl h1 (hr h1 a0 2) : Int)) ∧ (hk h1 (hr h1 a1 2) = 20 ∧ hk h1 (hr h1 a0 2) = 20 ∧ (hr h1 a1 2) ≠ (hr h1 a0 2)) ∧ (0 ≤ (0 : Int) ∧ 0 ≤ (0 : Int) ∧ 0 ≤ (if ((hl h1 (hr h1 a1 2) : Int)) ≤ ((hl h1 (hr h1 a0 2) : Int)) then ((hl h1 (hr h1 a1 2) : Int)) else ((hl h1 (hr h1 a0 2) : Int))) ∧ (0 : Int) + (if ((hl h1 (hr h1 a1 2) : Int)) ≤ ((hl h1 (hr h1 a0 2) : Int)) then ((hl h1 (hr h1 a1 2) : Int)) else ((hl h1 (hr h1 a0 2) : Int))) ≤ hl h1 (hr h1 a1 2) ∧ (0 : Int) + (if ((hl h1 (hr h1 a1 2) : Int)) ≤ ((hl h1 (hr h1 a0 2) : Int)) then ((hl h1 (hr h1 a1 2) : Int)) else ((hl h1 (hr h1 a0 2) : Int))) ≤ hl h1 (hr h1 a0 2)) ∧ ∀ h2, h2 = hcp h1 (hr h1 a1 2) (Int.toNat (0 : Int)) (hr h1 a0 2) (Int.toNat (0 : Int)) (Int.toNat ((if ((hl h1 (hr h1 a1 2) : Int)) ≤ ((hl h1 (hr h1 a0 2) : Int)) then ((hl h1 (hr h1 a1 2) : Int)) else ((hl h1 (hr h1 a0 2) : Int))))) →
 Q 0 h2) : wpc k_X1_copyFrom [] call mc ms fr Q X [] K 400 (pto 0 k_X1_copyFrom) [some (pA a0), some (pA a1)] [] h c s :=
  H
set_option maxRecDepth 100000 in
theorem v_X0_copyFrom_0 (a0 : Nat) (a1 : Nat) (h : PH) (c s : Nat) (H : hk h a1 = 1 ∧ hk h a0 = 1 ∧ call m_X0_copyRow [pA (hr h a1 0), pA (hr h a0 0)] h (fun _ h1 =>
 hk h1 a1 = 1 ∧ hk h1 a0 = 1 ∧ call m_X0_copyRow [pA (hr h1 a1 1), pA (hr h1 a0 1)] h1 (fun _ h2 =>
 hk h2 a1 = 1 ∧ hk h2 a0 = 1 ∧ call m_X0_copyRow [pA (hr h2 a1 2), pA (hr h2 a0 2)] h2 (fun _ h3 =>
 hk h3 a1 = 1 ∧ hk h3 a0 = 1 ∧ call m_X0_copyRow [pA (hr h3 a1 3), pA (hr h3 a0 3)] h3 (fun _ h4 =>
 hk h4 a1 = 1 ∧ hk h4 a0 = 1 ∧ call m_X0_copyRow [pA (hr h4 a1 4), pA (hr h4 a0 4)] h4 (fun _ h5 =>
 hk h5 a1 = 1 ∧ hk h5 a0 = 1 ∧ call m_X0_copyRow [pA (hr h5 a1 7), pA (hr h5 a0 7)] h5 (fun _ h6 =>
 hk h6 a1 = 1 ∧ hk h6 a0 = 1 ∧ call m_X0_copyRow [pA (hr h6 a1 8), pA (hr h6 a0 8)] h6 (fun _ h7 =>
 hk h7 a0 = 1 ∧ hk h7 a1 = 1 ∧ hk h7 (hr h7 a0 5) = 2 ∧ call m_X1_copyFrom [pA (hr h7 a0 5), pA (hr h7 a1 5)] h7 (fun _ h8 =>
 hk h8 a0 = 1 ∧ hk h8 a1 = 1 ∧ hk h8 (hr h8 a0 6) = 2 ∧ call m_X1_copyFrom [pA (hr h8 a0 6), pA (hr h8 a1 6)] h8 (fun _ h9 =>
 hk h9 a1 = 1 ∧ hk h9 a0 = 1 ∧ ∀ h10, h10 = hsi h9 a0 9 (hi h9 a1 9) →
 hk h10 a1 = 1 ∧ hk h10 a0 = 1 ∧ ∀ h11, h11 = hsi h10 a0 10 (hi h10 a1 10) →
 hk h11 a1 = 1 ∧ hk h11 a0 = 1 ∧ ∀ h12, h12 = hsi h11 a0 11 (hi h11 a1 11) →
 hk h12 a1 = 1 ∧ hk h12 a0 = 1 ∧ ∀ h13, h13 = hsi h12 a0 12 (hi h12 a1 12) →
 hk h13 a0 = 1 ∧ ∀ h14, h14 = hsi h13 a0 13 ((-1)) →
 hk h14 a0 = 1 ∧ ∀ h15, h15 = hsi h14 a0 14 ((-1)) →
 Q 0 h15) X) X) X) X) X) X) X) X) X) : wpc k_X0_copyFrom [] call mc ms fr Q X [] K 400 (pto 0 k_X0_copyFrom) [some (pA a0), some (pA a1)] [] h c s :=
  H
end VCS
theorem S_X0_copyRow_1 {d a b : Nat} {h0 h : PH} {E F : Nat → Int → Int} {Q : Int → PH → Prop} {X : Nat → PH → Prop} (M : Hx b h0 h E) (L : Hx a h0 h0 F) (hd : a + 14 ≤ b ∨ b + 14 ≤ a)  (H : ∀ (x : Int) h', x = (0) → Hx b h0 h' (crow 1 4 F E) → Q x h') : RUN GQ (d + 1) m_X0_copyRow [pA (a + 1), pA (b + 1)] h Q X := by
  rw [e_X0_copyRow]
  refine WP.of (RUN.mono GQ _) (cuts := []) (n := 400) (v_X0_copyRow_0 _ _ _ _ _ ?_)
  refine Bx.al (Bx.at L hd M) 1 4 20 (by decide) rfl (by decide) rfl (fun el5 => ?_)
  refine Bx.al M 1 4 20 (by decide) rfl (by decide) rfl (fun el7 => ?_)
  refine ⟨ir (by omega) (by omega), ir (by omega) (by omega), ?_⟩
  refine Bx.cp M (Bx.at L hd M) hd 1 4 (by decide) (by decide) rfl rfl rfl rfl (by split <;> omega) (fun h11 M11 => ?_)
  exact H _ _ rfl M11
theorem S_X0_copyRow_2 {d a b : Nat} {h0 h : PH} {E F : Nat → Int → Int} {Q : Int → PH → Prop} {X : Nat → PH → Prop} (M : Hx b h0 h E) (L : Hx a h0 h0 F) (hd : a + 14 ≤ b ∨ b + 14 ≤ a)  (H : ∀ (x : Int) h', x = (0) → Hx b h0 h' (crow 2 24 F E) → Q x h') : RUN GQ (d + 1) m_X0_copyRow [pA (a + 2), pA (b + 2)] h Q X := by
  rw [e_X0_copyRow]
  refine WP.of (RUN.mono GQ _) (cuts := []) (n := 400) (v_X0_copyRow_0 _ _ _ _ _ ?_)
  refine Bx.al (Bx.at L hd M) 2 24 20 (by decide) rfl (by decide) rfl (fun el5 => ?_)
  refine Bx.al M 2 24 20 (by decide) rfl (by decide) rfl (fun el7 => ?_)
  refine ⟨ir (by omega) (by omega), ir (by omega) (by omega), ?_⟩
  refine Bx.cp M (Bx.at L hd M) hd 2 24 (by decide) (by decide) rfl rfl rfl rfl (by split <;> omega) (fun h11 M11 => ?_)
  exact H _ _ rfl M11
theorem S_X0_copyRow_3 {d a b : Nat} {h0 h : PH} {E F : Nat → Int → Int} {Q : Int → PH → Prop} {X : Nat → PH → Prop} (M : Hx b h0 h E) (L : Hx a h0 h0 F) (hd : a + 14 ≤ b ∨ b + 14 ≤ a)  (H : ∀ (x : Int) h', x = (0) → Hx b h0 h' (crow 3 48 F E) → Q x h') : RUN GQ (d + 1) m_X0_copyRow [pA (a + 3), pA (b + 3)] h Q X := by
  rw [e_X0_copyRow]
  refine WP.of (RUN.mono GQ _) (cuts := []) (n := 400) (v_X0_copyRow_0 _ _ _ _ _ ?_)
  refine Bx.al (Bx.at L hd M) 3 48 20 (by decide) rfl (by decide) rfl (fun el5 => ?_)
  refine Bx.al M 3 48 20 (by decide) rfl (by decide) rfl (fun el7 => ?_)
  refine ⟨ir (by omega) (by omega), ir (by omega) (by omega), ?_⟩
  refine Bx.cp M (Bx.at L hd M) hd 3 48 (by decide) (by decide) rfl rfl rfl rfl (by split <;> omega) (fun h11 M11 => ?_)
  exact H _ _ rfl M11
theorem S_X0_copyRow_4 {d a b : Nat} {h0 h : PH} {E F : Nat → Int → Int} {Q : Int → PH → Prop} {X : Nat → PH → Prop} (M : Hx b h0 h E) (L : Hx a h0 h0 F) (hd : a + 14 ≤ b ∨ b + 14 ≤ a)  (H : ∀ (x : Int) h', x = (0) → Hx b h0 h' (crow 4 6 F E) → Q x h') : RUN GQ (d + 1) m_X0_copyRow [pA (a + 4), pA (b + 4)] h Q X := by
  rw [e_X0_copyRow]
  refine WP.of (RUN.mono GQ _) (cuts := []) (n := 400) (v_X0_copyRow_0 _ _ _ _ _ ?_)
  refine Bx.al (Bx.at L hd M) 4 6 20 (by decide) rfl (by decide) rfl (fun el5 => ?_)
  refine Bx.al M 4 6 20 (by decide) rfl (by decide) rfl (fun el7 => ?_)
  refine ⟨ir (by omega) (by omega), ir (by omega) (by omega), ?_⟩
  refine Bx.cp M (Bx.at L hd M) hd 4 6 (by decide) (by decide) rfl rfl rfl rfl (by split <;> omega) (fun h11 M11 => ?_)
  exact H _ _ rfl M11
theorem S_X0_copyRow_5 {d a b : Nat} {h0 h : PH} {E F : Nat → Int → Int} {Q : Int → PH → Prop} {X : Nat → PH → Prop} (M : Hx b h0 h E) (L : Hx a h0 h0 F) (hd : a + 14 ≤ b ∨ b + 14 ≤ a)  (H : ∀ (x : Int) h', x = (0) → Hx b h0 h' (crow 5 24 F E) → Q x h') : RUN GQ (d + 1) m_X0_copyRow [pA (a + 5), pA (b + 5)] h Q X := by
  rw [e_X0_copyRow]
  refine WP.of (RUN.mono GQ _) (cuts := []) (n := 400) (v_X0_copyRow_0 _ _ _ _ _ ?_)
  refine Bx.al (Bx.at L hd M) 5 24 20 (by decide) rfl (by decide) rfl (fun el5 => ?_)
  refine Bx.al M 5 24 20 (by decide) rfl (by decide) rfl (fun el7 => ?_)
  refine ⟨ir (by omega) (by omega), ir (by omega) (by omega), ?_⟩
  refine Bx.cp M (Bx.at L hd M) hd 5 24 (by decide) (by decide) rfl rfl rfl rfl (by split <;> omega) (fun h11 M11 => ?_)
  exact H _ _ rfl M11
theorem S_X0_copyRow_12 {d a b : Nat} {h0 h : PH} {E F : Nat → Int → Int} {Q : Int → PH → Prop} {X : Nat → PH → Prop} (M : Hx b h0 h E) (L : Hx a h0 h0 F) (hd : a + 14 ≤ b ∨ b + 14 ≤ a)  (H : ∀ (x : Int) h', x = (0) → Hx b h0 h' (crow 12 6 F E) → Q x h') : RUN GQ (d + 1) m_X0_copyRow [pA (a + 12), pA (b + 12)] h Q X := by
  rw [e_X0_copyRow]
  refine WP.of (RUN.mono GQ _) (cuts := []) (n := 400) (v_X0_copyRow_0 _ _ _ _ _ ?_)
  refine Bx.al (Bx.at L hd M) 12 6 20 (by decide) rfl (by decide) rfl (fun el5 => ?_)
  refine Bx.al M 12 6 20 (by decide) rfl (by decide) rfl (fun el7 => ?_)
  refine ⟨ir (by omega) (by omega), ir (by omega) (by omega), ?_⟩
  refine Bx.cp M (Bx.at L hd M) hd 12 6 (by decide) (by decide) rfl rfl rfl rfl (by split <;> omega) (fun h11 M11 => ?_)
  exact H _ _ rfl M11
theorem S_X0_copyRow_13 {d a b : Nat} {h0 h : PH} {E F : Nat → Int → Int} {Q : Int → PH → Prop} {X : Nat → PH → Prop} (M : Hx b h0 h E) (L : Hx a h0 h0 F) (hd : a + 14 ≤ b ∨ b + 14 ≤ a)  (H : ∀ (x : Int) h', x = (0) → Hx b h0 h' (crow 13 200 F E) → Q x h') : RUN GQ (d + 1) m_X0_copyRow [pA (a + 13), pA (b + 13)] h Q X := by
  rw [e_X0_copyRow]
  refine WP.of (RUN.mono GQ _) (cuts := []) (n := 400) (v_X0_copyRow_0 _ _ _ _ _ ?_)
  refine Bx.al (Bx.at L hd M) 13 200 20 (by decide) rfl (by decide) rfl (fun el5 => ?_)
  refine Bx.al M 13 200 20 (by decide) rfl (by decide) rfl (fun el7 => ?_)
  refine ⟨ir (by omega) (by omega), ir (by omega) (by omega), ?_⟩
  refine Bx.cp M (Bx.at L hd M) hd 13 200 (by decide) (by decide) rfl rfl rfl rfl (by split <;> omega) (fun h11 M11 => ?_)
  exact H _ _ rfl M11
theorem S_X1_copyFrom_q {d a b : Nat} {h0 h : PH} {E F : Nat → Int → Int} {Q : Int → PH → Prop} {X : Nat → PH → Prop} (M : Hx b h0 h E) (L : Hx a h0 h0 F) (hd : a + 14 ≤ b ∨ b + 14 ≤ a)  (H : ∀ (x : Int) h', x = (0) → Hx b h0 h' (crow 8 546 F (crow 7 6 F E)) → Q x h') : RUN GQ (d + 1) m_X1_copyFrom [pA (b + 6), pA (a + 6)] h Q X := by
  rw [e_X1_copyFrom]
  refine WP.of (RUN.mono GQ _) (cuts := []) (n := 400) (v_X1_copyFrom_0 _ _ _ _ _ ?_)
  refine ⟨Bx.k (Bx.at L hd M) 6 (by decide) rfl, ?_⟩
  try rw [show hr h (a + 6) 1 = a + 7 from Bx.r (Bx.at L hd M) 6 1 7 (by decide)]
  refine ⟨Bx.k M 6 (by decide) rfl, ?_⟩
  try rw [show hr h (b + 6) 1 = b + 7 from Bx.r M 6 1 7 (by decide)]
  refine ⟨Bx.k (Bx.at L hd M) 6 (by decide) rfl, ?_⟩
  try rw [show hr h (a + 6) 1 = a + 7 from Bx.r (Bx.at L hd M) 6 1 7 (by decide)]
  refine Bx.al (Bx.at L hd M) 7 6 20 (by decide) rfl (by decide) rfl (fun el14 => ?_)
  refine ⟨Bx.k M 6 (by decide) rfl, ?_⟩
  try rw [show hr h (b + 6) 1 = b + 7 from Bx.r M 6 1 7 (by decide)]
  refine Bx.al M 7 6 20 (by decide) rfl (by decide) rfl (fun el19 => ?_)
  refine ⟨ir (by omega) (by omega), ir (by omega) (by omega), ?_⟩
  refine Bx.cp M (Bx.at L hd M) hd 7 6 (by decide) (by decide) rfl rfl rfl rfl (by split <;> omega) (fun h23 M23 => ?_)
  refine ⟨Bx.k (Bx.at L hd M23) 6 (by decide) rfl, ?_⟩
  try rw [show hr h23 (a + 6) 2 = a + 8 from Bx.r (Bx.at L hd M23) 6 2 8 (by decide)]
  refine ⟨Bx.k M23 6 (by decide) rfl, ?_⟩
  try rw [show hr h23 (b + 6) 2 = b + 8 from Bx.r M23 6 2 8 (by decide)]
  refine ⟨Bx.k (Bx.at L hd M23) 6 (by decide) rfl, ?_⟩
  try rw [show hr h23 (a + 6) 2 = a + 8 from Bx.r (Bx.at L hd M23) 6 2 8 (by decide)]
  refine Bx.al (Bx.at L hd M23) 8 546 20 (by decide) rfl (by decide) rfl (fun el40 => ?_)
  refine ⟨Bx.k M23 6 (by decide) rfl, ?_⟩
  try rw [show hr h23 (b + 6) 2 = b + 8 from Bx.r M23 6 2 8 (by decide)]
  refine Bx.al M23 8 546 20 (by decide) rfl (by decide) rfl (fun el45 => ?_)
  refine ⟨ir (by omega) (by omega), ir (by omega) (by omega), ?_⟩
  refine Bx.cp M23 (Bx.at L hd M23) hd 8 546 (by decide) (by decide) rfl rfl rfl rfl (by split <;> omega) (fun h49 M49 => ?_)
  exact H _ _ rfl M49
theorem S_X1_copyFrom_s {d a b : Nat} {h0 h : PH} {E F : Nat → Int → Int} {Q : Int → PH → Prop} {X : Nat → PH → Prop} (M : Hx b h0 h E) (L : Hx a h0 h0 F) (hd : a + 14 ≤ b ∨ b + 14 ≤ a)  (H : ∀ (x : Int) h', x = (0) → Hx b h0 h' (crow 11 168 F (crow 10 6 F E)) → Q x h') : RUN GQ (d + 1) m_X1_copyFrom [pA (b + 9), pA (a + 9)] h Q X := by
  rw [e_X1_copyFrom]
  refine WP.of (RUN.mono GQ _) (cuts := []) (n := 400) (v_X1_copyFrom_0 _ _ _ _ _ ?_)
  refine ⟨Bx.k (Bx.at L hd M) 9 (by decide) rfl, ?_⟩
  try rw [show hr h (a + 9) 1 = a + 10 from Bx.r (Bx.at L hd M) 9 1 10 (by decide)]
  refine ⟨Bx.k M 9 (by decide) rfl, ?_⟩
  try rw [show hr h (b + 9) 1 = b + 10 from Bx.r M 9 1 10 (by decide)]
  refine ⟨Bx.k (Bx.at L hd M) 9 (by decide) rfl, ?_⟩
  try rw [show hr h (a + 9) 1 = a + 10 from Bx.r (Bx.at L hd M) 9 1 10 (by decide)]
  refine Bx.al (Bx.at L hd M) 10 6 20 (by decide) rfl (by decide) rfl (fun el14 => ?_)
  refine ⟨Bx.k M 9 (by decide) rfl, ?_⟩
  try rw [show hr h (b + 9) 1 = b + 10 from Bx.r M 9 1 10 (by decide)]
  refine Bx.al M 10 6 20 (by decide) rfl (by decide) rfl (fun el19 => ?_)
  refine ⟨ir (by omega) (by omega), ir (by omega) (by omega), ?_⟩
  refine Bx.cp M (Bx.at L hd M) hd 10 6 (by decide) (by decide) rfl rfl rfl rfl (by split <;> omega) (fun h23 M23 => ?_)
  refine ⟨Bx.k (Bx.at L hd M23) 9 (by decide) rfl, ?_⟩
  try rw [show hr h23 (a + 9) 2 = a + 11 from Bx.r (Bx.at L hd M23) 9 2 11 (by decide)]
  refine ⟨Bx.k M23 9 (by decide) rfl, ?_⟩
  try rw [show hr h23 (b + 9) 2 = b + 11 from Bx.r M23 9 2 11 (by decide)]
  refine ⟨Bx.k (Bx.at L hd M23) 9 (by decide) rfl, ?_⟩
  try rw [show hr h23 (a + 9) 2 = a + 11 from Bx.r (Bx.at L hd M23) 9 2 11 (by decide)]
  refine Bx.al (Bx.at L hd M23) 11 168 20 (by decide) rfl (by decide) rfl (fun el40 => ?_)
  refine ⟨Bx.k M23 9 (by decide) rfl, ?_⟩
  try rw [show hr h23 (b + 9) 2 = b + 11 from Bx.r M23 9 2 11 (by decide)]
  refine Bx.al M23 11 168 20 (by decide) rfl (by decide) rfl (fun el45 => ?_)
  refine ⟨ir (by omega) (by omega), ir (by omega) (by omega), ?_⟩
  refine Bx.cp M23 (Bx.at L hd M23) hd 11 168 (by decide) (by decide) rfl rfl rfl rfl (by split <;> omega) (fun h49 M49 => ?_)
  exact H _ _ rfl M49
theorem S_X0_copyFrom {d a b : Nat} {h0 h : PH} {E F : Nat → Int → Int} {Q : Int → PH → Prop} {X : Nat → PH → Prop} (M : Hx b h0 h E) (L : Hx a h0 h0 F) (hd : a + 14 ≤ b ∨ b + 14 ≤ a)  (H : ∀ (x : Int) h', x = (0) → Hx b h0 h' (cpE F E) → Q x h') : RUN GQ (d + 2) m_X0_copyFrom [pA b, pA a] h Q X := by
  rw [e_X0_copyFrom]
  refine WP.of (RUN.mono GQ _) (cuts := []) (n := 400) (v_X0_copyFrom_0 _ _ _ _ _ ?_)
  refine ⟨Bx.k (Bx.at L hd M) 0 (by decide) rfl, ?_⟩
  try rw [show hr h a 0 = a + 1 from Bx.r (Bx.at L hd M) 0 0 1 (by decide)]
  refine ⟨Bx.k M 0 (by decide) rfl, ?_⟩
  try rw [show hr h b 0 = b + 1 from Bx.r M 0 0 1 (by decide)]
  refine S_X0_copyRow_1 M L hd (fun x8 h8 e8 M8 => ?_)
  subst e8
  refine ⟨Bx.k (Bx.at L hd M8) 0 (by decide) rfl, ?_⟩
  try rw [show hr h8 a 1 = a + 2 from Bx.r (Bx.at L hd M8) 0 1 2 (by decide)]
  refine ⟨Bx.k M8 0 (by decide) rfl, ?_⟩
  try rw [show hr h8 b 1 = b + 2 from Bx.r M8 0 1 2 (by decide)]
  refine S_X0_copyRow_2 M8 L hd (fun x19 h19 e19 M19 => ?_)
  subst e19
  refine ⟨Bx.k (Bx.at L hd M19) 0 (by decide) rfl, ?_⟩
  try rw [show hr h19 a 2 = a + 3 from Bx.r (Bx.at L hd M19) 0 2 3 (by decide)]
  refine ⟨Bx.k M19 0 (by decide) rfl, ?_⟩
  try rw [show hr h19 b 2 = b + 3 from Bx.r M19 0 2 3 (by decide)]
  refine S_X0_copyRow_3 M19 L hd (fun x30 h30 e30 M30 => ?_)
  subst e30
  refine ⟨Bx.k (Bx.at L hd M30) 0 (by decide) rfl, ?_⟩
  try rw [show hr h30 a 3 = a + 4 from Bx.r (Bx.at L hd M30) 0 3 4 (by decide)]
  refine ⟨Bx.k M30 0 (by decide) rfl, ?_⟩
  try rw [show hr h30 b 3 = b + 4 from Bx.r M30 0 3 4 (by decide)]
  refine S_X0_copyRow_4 M30 L hd (fun x41 h41 e41 M41 => ?_)
  subst e41
  refine ⟨Bx.k (Bx.at L hd M41) 0 (by decide) rfl, ?_⟩
  try rw [show hr h41 a 4 = a + 5 from Bx.r (Bx.at L hd M41) 0 4 5 (by decide)]
  refine ⟨Bx.k M41 0 (by decide) rfl, ?_⟩
  try rw [show hr h41 b 4 = b + 5 from Bx.r M41 0 4 5 (by decide)]
  refine S_X0_copyRow_5 M41 L hd (fun x52 h52 e52 M52 => ?_)
  subst e52
  refine ⟨Bx.k (Bx.at L hd M52) 0 (by decide) rfl, ?_⟩
  try rw [show hr h52 a 7 = a + 12 from Bx.r (Bx.at L hd M52) 0 7 12 (by decide)]
  refine ⟨Bx.k M52 0 (by decide) rfl, ?_⟩
  try rw [show hr h52 b 7 = b + 12 from Bx.r M52 0 7 12 (by decide)]
  refine S_X0_copyRow_12 M52 L hd (fun x63 h63 e63 M63 => ?_)
  subst e63
  refine ⟨Bx.k (Bx.at L hd M63) 0 (by decide) rfl, ?_⟩
  try rw [show hr h63 a 8 = a + 13 from Bx.r (Bx.at L hd M63) 0 8 13 (by decide)]
  refine ⟨Bx.k M63 0 (by decide) rfl, ?_⟩
  try rw [show hr h63 b 8 = b + 13 from Bx.r M63 0 8 13 (by decide)]
  refine S_X0_copyRow_13 M63 L hd (fun x74 h74 e74 M74 => ?_)
  subst e74
  refine ⟨Bx.k M74 0 (by decide) rfl, ?_⟩
  try rw [show hr h74 b 5 = b + 6 from Bx.r M74 0 5 6 (by decide)]
  refine ⟨Bx.k (Bx.at L hd M74) 0 (by decide) rfl, ?_⟩
  try rw [show hr h74 a 5 = a + 6 from Bx.r (Bx.at L hd M74) 0 5 6 (by decide)]
  refine ⟨Bx.k M74 6 (by decide) rfl, ?_⟩
  refine S_X1_copyFrom_q M74 L hd (fun x85 h85 e85 M85 => ?_)
  subst e85
  refine ⟨Bx.k M85 0 (by decide) rfl, ?_⟩
  try rw [show hr h85 b 6 = b + 9 from Bx.r M85 0 6 9 (by decide)]
  refine ⟨Bx.k (Bx.at L hd M85) 0 (by decide) rfl, ?_⟩
  try rw [show hr h85 a 6 = a + 9 from Bx.r (Bx.at L hd M85) 0 6 9 (by decide)]
  refine ⟨Bx.k M85 9 (by decide) rfl, ?_⟩
  refine S_X1_copyFrom_s M85 L hd (fun x96 h96 e96 M96 => ?_)
  subst e96
  refine ⟨Bx.k (Bx.at L hd M96) 0 (by decide) rfl, ?_⟩
  try rw [show hi h96 a 9 = _ from Bx.f9 (Bx.at L hd M96) 0 (by decide)]
  refine Bx.pf9 M96 0 1 (by decide) rfl (fun h104 M104 => ?_)
  refine ⟨Bx.k (Bx.at L hd M104) 0 (by decide) rfl, ?_⟩
  try rw [show hi h104 a 10 = _ from Bx.f10 (Bx.at L hd M104) 0 (by decide)]
  refine Bx.pf10 M104 0 1 (by decide) rfl (fun h112 M112 => ?_)
  refine ⟨Bx.k (Bx.at L hd M112) 0 (by decide) rfl, ?_⟩
  try rw [show hi h112 a 11 = _ from Bx.f11 (Bx.at L hd M112) 0 (by decide)]
  refine Bx.pf11 M112 0 1 (by decide) rfl (fun h120 M120 => ?_)
  refine ⟨Bx.k (Bx.at L hd M120) 0 (by decide) rfl, ?_⟩
  try rw [show hi h120 a 12 = _ from Bx.f12 (Bx.at L hd M120) 0 (by decide)]
  refine Bx.pf12 M120 0 1 (by decide) rfl (fun h128 M128 => ?_)
  refine Bx.pf13 M128 0 1 (by decide) rfl (fun h133 M133 => ?_)
  refine Bx.pf14 M133 0 1 (by decide) rfl (fun h138 M138 => ?_)
  exact H _ _ rfl M138
