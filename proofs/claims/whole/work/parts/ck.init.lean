/-! what is made: plan, names, output, model (written by wip/whole/tools/genck.py) -/
section CKV
variable {call : PC} {mc ms fr : Nat} {Q : Int → PH → Prop} {X : Nat → PH → Prop} {K : PK}
set_option maxRecDepth 100000 in
theorem v_X2_init_0 (a0 : Nat) (h : PH) (c s : Nat) (H : a0 ≠ 0 ∧ (0 ≤ (8 : Int) ∧ (8 : Int) ≤ (100000 : Int)) ∧ (c + 1 ≤ mc ∧ s + (Int.toNat (8 : Int)) ≤ ms) ∧ ∀ h1, h1 = hnew h 20 (Int.toNat (8 : Int)) →
 hk h1 a0 = 3 ∧ ∀ h2, h2 = hsr h1 a0 0 (hn h) →
 (0 ≤ (56 : Int) ∧ (56 : Int) ≤ (100000 : Int)) ∧ ((c + 1) + 1 ≤ mc ∧ (s + (Int.toNat (8 : Int))) + (Int.toNat (56 : Int)) ≤ ms) ∧ ∀ h3, h3 = hnew h2 21 (Int.toNat (56 : Int)) →
 hk h3 a0 = 3 ∧ ∀ h4, h4 = hsr h3 a0 1 (hn h2) →
 Q 0 h4) : wpc k_X2_init [] call mc ms fr Q X [] K 400 (pto 0 k_X2_init) [some (pA a0)] [] h c s :=
  H

set_option maxRecDepth 100000 in
theorem v_X3_init_0 (a0 : Nat) (h : PH) (c s : Nat) (H : a0 ≠ 0 ∧ (0 ≤ (400 : Int) ∧ (400 : Int) ≤ (100000 : Int)) ∧ (c + 1 ≤ mc ∧ s + (Int.toNat (400 : Int)) ≤ ms) ∧ ∀ h1, h1 = hnew h 21 (Int.toNat (400 : Int)) →
 hk h1 a0 = 4 ∧ ∀ h2, h2 = hsr h1 a0 0 (hn h) →
 Q 0 h2) : wpc k_X3_init [] call mc ms fr Q X [] K 400 (pto 0 k_X3_init) [some (pA a0)] [] h c s :=
  H

set_option maxRecDepth 100000 in
theorem v_X5_init_0 (a0 : Nat) (h : PH) (c s : Nat) (H : a0 ≠ 0 ∧ (c + 1 ≤ mc ∧ s + 3 ≤ ms) ∧ ∀ h1, h1 = hnew h 3 3 →
 hk h1 (hn h) = 3 ∧ ((c + 1) + 2 ≤ mc ∧ (s + 3) + 64 ≤ ms) ∧ call m_X2_init [pA (hn h)] h1 (fun _ h2 =>
 hk h2 a0 = 6 ∧ ∀ h3, h3 = hsr h2 a0 0 (hn h) →
 (((c + 1) + 2) + 1 ≤ mc ∧ ((s + 3) + 64) + 3 ≤ ms) ∧ ∀ h4, h4 = hnew h3 3 3 →
 hk h4 (hn h3) = 3 ∧ ((((c + 1) + 2) + 1) + 2 ≤ mc ∧ (((s + 3) + 64) + 3) + 64 ≤ ms) ∧ call m_X2_init [pA (hn h3)] h4 (fun _ h5 =>
 hk h5 a0 = 6 ∧ ∀ h6, h6 = hsr h5 a0 1 (hn h3) →
 (0 ≤ (48 : Int) ∧ (48 : Int) ≤ (100000 : Int)) ∧ (((((c + 1) + 2) + 1) + 2) + 1 ≤ mc ∧ ((((s + 3) + 64) + 3) + 64) + (Int.toNat (48 : Int)) ≤ ms) ∧ ∀ h7, h7 = hnew h6 20 (Int.toNat (48 : Int)) →
 hk h7 a0 = 6 ∧ ∀ h8, h8 = hsr h7 a0 2 (hn h6) →
 (0 ≤ (48 : Int) ∧ (48 : Int) ≤ (100000 : Int)) ∧ ((((((c + 1) + 2) + 1) + 2) + 1) + 1 ≤ mc ∧ (((((s + 3) + 64) + 3) + 64) + (Int.toNat (48 : Int))) + (Int.toNat (48 : Int)) ≤ ms) ∧ ∀ h9, h9 = hnew h8 20 (Int.toNat (48 : Int)) →
 hk h9 a0 = 6 ∧ ∀ h10, h10 = hsr h9 a0 3 (hn h8) →
 (0 ≤ (768 : Int) ∧ (768 : Int) ≤ (100000 : Int)) ∧ (((((((c + 1) + 2) + 1) + 2) + 1) + 1) + 1 ≤ mc ∧ ((((((s + 3) + 64) + 3) + 64) + (Int.toNat (48 : Int))) + (Int.toNat (48 : Int))) + (Int.toNat (768 : Int)) ≤ ms) ∧ ∀ h11, h11 = hnew h10 20 (Int.toNat (768 : Int)) →
 hk h11 a0 = 6 ∧ ∀ h12, h12 = hsr h11 a0 4 (hn h10) →
 Q 0 h12) X) X) : wpc k_X5_init [] call mc ms fr Q X [] K 400 (pto 0 k_X5_init) [some (pA a0)] [] h c s :=
  H

set_option maxRecDepth 100000 in
theorem v_X7_init_0 (a0 : Nat) (h : PH) (c s : Nat) (H : a0 ≠ 0 ∧ (0 ≤ (56 : Int) ∧ (56 : Int) ≤ (100000 : Int)) ∧ (c + 1 ≤ mc ∧ s + (Int.toNat (56 : Int)) ≤ ms) ∧ ∀ h1, h1 = hnew h 20 (Int.toNat (56 : Int)) →
 hk h1 a0 = 8 ∧ ∀ h2, h2 = hsr h1 a0 6 (hn h) →
 (0 ≤ (42 : Int) ∧ (42 : Int) ≤ (100000 : Int)) ∧ ((c + 1) + 1 ≤ mc ∧ (s + (Int.toNat (56 : Int))) + (Int.toNat (42 : Int)) ≤ ms) ∧ ∀ h3, h3 = hnew h2 20 (Int.toNat (42 : Int)) →
 hk h3 a0 = 8 ∧ ∀ h4, h4 = hsr h3 a0 7 (hn h2) →
 (0 ≤ (48 : Int) ∧ (48 : Int) ≤ (100000 : Int)) ∧ (((c + 1) + 1) + 1 ≤ mc ∧ ((s + (Int.toNat (56 : Int))) + (Int.toNat (42 : Int))) + (Int.toNat (48 : Int)) ≤ ms) ∧ ∀ h5, h5 = hnew h4 20 (Int.toNat (48 : Int)) →
 hk h5 a0 = 8 ∧ ∀ h6, h6 = hsr h5 a0 8 (hn h4) →
 (0 ≤ (48 : Int) ∧ (48 : Int) ≤ (100000 : Int)) ∧ ((((c + 1) + 1) + 1) + 1 ≤ mc ∧ (((s + (Int.toNat (56 : Int))) + (Int.toNat (42 : Int))) + (Int.toNat (48 : Int))) + (Int.toNat (48 : Int)) ≤ ms) ∧ ∀ h7, h7 = hnew h6 20 (Int.toNat (48 : Int)) →
 hk h7 a0 = 8 ∧ ∀ h8, h8 = hsr h7 a0 9 (hn h6) →
 (0 ≤ (768 : Int) ∧ (768 : Int) ≤ (100000 : Int)) ∧ (((((c + 1) + 1) + 1) + 1) + 1 ≤ mc ∧ ((((s + (Int.toNat (56 : Int))) + (Int.toNat (42 : Int))) + (Int.toNat (48 : Int))) + (Int.toNat (48 : Int))) + (Int.toNat (768 : Int)) ≤ ms) ∧ ∀ h9, h9 = hnew h8 20 (Int.toNat (768 : Int)) →
 hk h9 a0 = 8 ∧ ∀ h10, h10 = hsr h9 a0 10 (hn h8) →
 (0 ≤ (861 : Int) ∧ (861 : Int) ≤ (100000 : Int)) ∧ ((((((c + 1) + 1) + 1) + 1) + 1) + 1 ≤ mc ∧ (((((s + (Int.toNat (56 : Int))) + (Int.toNat (42 : Int))) + (Int.toNat (48 : Int))) + (Int.toNat (48 : Int))) + (Int.toNat (768 : Int))) + (Int.toNat (861 : Int)) ≤ ms) ∧ ∀ h11, h11 = hnew h10 20 (Int.toNat (861 : Int)) →
 hk h11 a0 = 8 ∧ ∀ h12, h12 = hsr h11 a0 11 (hn h10) →
 (0 ≤ (861 : Int) ∧ (861 : Int) ≤ (100000 : Int)) ∧ (((((((c + 1) + 1) + 1) + 1) + 1) + 1) + 1 ≤ mc ∧ ((((((s + (Int.toNat (56 : Int))) + (Int.toNat (42 : Int))) + (Int.toNat (48 : Int))) + (Int.toNat (48 : Int))) + (Int.toNat (768 : Int))) + (Int.toNat (861 : Int))) + (Int.toNat (861 : Int)) ≤ ms) ∧ ∀ h13, h13 = hnew h12 20 (Int.toNat (861 : Int)) →
 hk h13 a0 = 8 ∧ ∀ h14, h14 = hsr h13 a0 12 (hn h12) →
 (0 ≤ (8610 : Int) ∧ (8610 : Int) ≤ (100000 : Int)) ∧ ((((((((c + 1) + 1) + 1) + 1) + 1) + 1) + 1) + 1 ≤ mc ∧ (((((((s + (Int.toNat (56 : Int))) + (Int.toNat (42 : Int))) + (Int.toNat (48 : Int))) + (Int.toNat (48 : Int))) + (Int.toNat (768 : Int))) + (Int.toNat (861 : Int))) + (Int.toNat (861 : Int))) + (Int.toNat (8610 : Int)) ≤ ms) ∧ ∀ h15, h15 = hnew h14 20 (Int.toNat (8610 : Int)) →
 hk h15 a0 = 8 ∧ ∀ h16, h16 = hsr h15 a0 13 (hn h14) →
 (0 ≤ (2 : Int) ∧ (2 : Int) ≤ (100000 : Int)) ∧ (((((((((c + 1) + 1) + 1) + 1) + 1) + 1) + 1) + 1) + 1 ≤ mc ∧ ((((((((s + (Int.toNat (56 : Int))) + (Int.toNat (42 : Int))) + (Int.toNat (48 : Int))) + (Int.toNat (48 : Int))) + (Int.toNat (768 : Int))) + (Int.toNat (861 : Int))) + (Int.toNat (861 : Int))) + (Int.toNat (8610 : Int))) + (Int.toNat (2 : Int)) ≤ ms) ∧ ∀ h17, h17 = hnew h16 22 (Int.toNat (2 : Int)) →
 hk h17 a0 = 8 ∧ ∀ h18, h18 = hsr h17 a0 15 (hn h16) →
 (0 ≤ (700 : Int) ∧ (700 : Int) ≤ (100000 : Int)) ∧ ((((((((((c + 1) + 1) + 1) + 1) + 1) + 1) + 1) + 1) + 1) + 1 ≤ mc ∧ (((((((((s + (Int.toNat (56 : Int))) + (Int.toNat (42 : Int))) + (Int.toNat (48 : Int))) + (Int.toNat (48 : Int))) + (Int.toNat (768 : Int))) + (Int.toNat (861 : Int))) + (Int.toNat (861 : Int))) + (Int.toNat (8610 : Int))) + (Int.toNat (2 : Int))) + (Int.toNat (700 : Int)) ≤ ms) ∧ ∀ h19, h19 = hnew h18 20 (Int.toNat (700 : Int)) →
 hk h19 a0 = 8 ∧ ∀ h20, h20 = hsr h19 a0 16 (hn h18) →
 hk h20 a0 = 8 ∧ ∀ h21, h21 = hsi h20 a0 19 ((-1)) →
 (0 ≤ (56 : Int) ∧ (56 : Int) ≤ (100000 : Int)) ∧ (((((((((((c + 1) + 1) + 1) + 1) + 1) + 1) + 1) + 1) + 1) + 1) + 1 ≤ mc ∧ ((((((((((s + (Int.toNat (56 : Int))) + (Int.toNat (42 : Int))) + (Int.toNat (48 : Int))) + (Int.toNat (48 : Int))) + (Int.toNat (768 : Int))) + (Int.toNat (861 : Int))) + (Int.toNat (861 : Int))) + (Int.toNat (8610 : Int))) + (Int.toNat (2 : Int))) + (Int.toNat (700 : Int))) + (Int.toNat (56 : Int)) ≤ ms) ∧ ∀ h22, h22 = hnew h21 20 (Int.toNat (56 : Int)) →
 hk h22 a0 = 8 ∧ ∀ h23, h23 = hsr h22 a0 35 (hn h21) →
 (0 ≤ (42 : Int) ∧ (42 : Int) ≤ (100000 : Int)) ∧ ((((((((((((c + 1) + 1) + 1) + 1) + 1) + 1) + 1) + 1) + 1) + 1) + 1) + 1 ≤ mc ∧ (((((((((((s + (Int.toNat (56 : Int))) + (Int.toNat (42 : Int))) + (Int.toNat (48 : Int))) + (Int.toNat (48 : Int))) + (Int.toNat (768 : Int))) + (Int.toNat (861 : Int))) + (Int.toNat (861 : Int))) + (Int.toNat (8610 : Int))) + (Int.toNat (2 : Int))) + (Int.toNat (700 : Int))) + (Int.toNat (56 : Int))) + (Int.toNat (42 : Int)) ≤ ms) ∧ ∀ h24, h24 = hnew h23 20 (Int.toNat (42 : Int)) →
 hk h24 a0 = 8 ∧ ∀ h25, h25 = hsr h24 a0 36 (hn h23) →
 (0 ≤ (24 : Int) ∧ (24 : Int) ≤ (100000 : Int)) ∧ (((((((((((((c + 1) + 1) + 1) + 1) + 1) + 1) + 1) + 1) + 1) + 1) + 1) + 1) + 1 ≤ mc ∧ ((((((((((((s + (Int.toNat (56 : Int))) + (Int.toNat (42 : Int))) + (Int.toNat (48 : Int))) + (Int.toNat (48 : Int))) + (Int.toNat (768 : Int))) + (Int.toNat (861 : Int))) + (Int.toNat (861 : Int))) + (Int.toNat (8610 : Int))) + (Int.toNat (2 : Int))) + (Int.toNat (700 : Int))) + (Int.toNat (56 : Int))) + (Int.toNat (42 : Int))) + (Int.toNat (24 : Int)) ≤ ms) ∧ ∀ h26, h26 = hnew h25 20 (Int.toNat (24 : Int)) →
 hk h26 a0 = 8 ∧ ∀ h27, h27 = hsr h26 a0 37 (hn h25) →
 (0 ≤ (6 : Int) ∧ (6 : Int) ≤ (100000 : Int)) ∧ ((((((((((((((c + 1) + 1) + 1) + 1) + 1) + 1) + 1) + 1) + 1) + 1) + 1) + 1) + 1) + 1 ≤ mc ∧ (((((((((((((s + (Int.toNat (56 : Int))) + (Int.toNat (42 : Int))) + (Int.toNat (48 : Int))) + (Int.toNat (48 : Int))) + (Int.toNat (768 : Int))) + (Int.toNat (861 : Int))) + (Int.toNat (861 : Int))) + (Int.toNat (8610 : Int))) + (Int.toNat (2 : Int))) + (Int.toNat (700 : Int))) + (Int.toNat (56 : Int))) + (Int.toNat (42 : Int))) + (Int.toNat (24 : Int))) + (Int.toNat (6 : Int)) ≤ ms) ∧ ∀ h28, h28 = hnew h27 20 (Int.toNat (6 : Int)) →
 hk h28 a0 = 8 ∧ ∀ h29, h29 = hsr h28 a0 38 (hn h27) →
 (0 ≤ (48 : Int) ∧ (48 : Int) ≤ (100000 : Int)) ∧ (((((((((((((((c + 1) + 1) + 1) + 1) + 1) + 1) + 1) + 1) + 1) + 1) + 1) + 1) + 1) + 1) + 1 ≤ mc ∧ ((((((((((((((s + (Int.toNat (56 : Int))) + (Int.toNat (42 : Int))) + (Int.toNat (48 : Int))) + (Int.toNat (48 : Int))) + (Int.toNat (768 : Int))) + (Int.toNat (861 : Int))) + (Int.toNat (861 : Int))) + (Int.toNat (8610 : Int))) + (Int.toNat (2 : Int))) + (Int.toNat (700 : Int))) + (Int.toNat (56 : Int))) + (Int.toNat (42 : Int))) + (Int.toNat (24 : Int))) + (Int.toNat (6 : Int))) + (Int.toNat (48 : Int)) ≤ ms) ∧ ∀ h30, h30 = hnew h29 20 (Int.toNat (48 : Int)) →
 hk h30 a0 = 8 ∧ ∀ h31, h31 = hsr h30 a0 39 (hn h29) →
 (0 ≤ (48 : Int) ∧ (48 : Int) ≤ (100000 : Int)) ∧ ((((((((((((((((c + 1) + 1) + 1) + 1) + 1) + 1) + 1) + 1) + 1) + 1) + 1) + 1) + 1) + 1) + 1) + 1 ≤ mc ∧ (((((((((((((((s + (Int.toNat (56 : Int))) + (Int.toNat (42 : Int))) + (Int.toNat (48 : Int))) + (Int.toNat (48 : Int))) + (Int.toNat (768 : Int))) + (Int.toNat (861 : Int))) + (Int.toNat (861 : Int))) + (Int.toNat (8610 : Int))) + (Int.toNat (2 : Int))) + (Int.toNat (700 : Int))) + (Int.toNat (56 : Int))) + (Int.toNat (42 : Int))) + (Int.toNat (24 : Int))) + (Int.toNat (6 : Int))) + (Int.toNat (48 : Int))) + (Int.toNat (48 : Int)) ≤ ms) ∧ ∀ h32, h32 = hnew h31 20 (Int.toNat (48 : Int)) →
 hk h32 a0 = 8 ∧ ∀ h33, h33 = hsr h32 a0 40 (hn h31) →
 (0 ≤ (768 : Int) ∧ (768 : Int) ≤ (100000 : Int)) ∧ (((((((((((((((((c + 1) + 1) + 1) + 1) + 1) + 1) + 1) + 1) + 1) + 1) + 1) + 1) + 1) + 1) + 1) + 1) + 1 ≤ mc ∧ ((((((((((((((((s + (Int.toNat (56 : Int))) + (Int.toNat (42 : Int))) + (Int.toNat (48 : Int))) + (Int.toNat (48 : Int))) + (Int.toNat (768 : Int))) + (Int.toNat (861 : Int))) + (Int.toNat (861 : Int))) + (Int.toNat (8610 : Int))) + (Int.toNat (2 : Int))) + (Int.toNat (700 : Int))) + (Int.toNat (56 : Int))) + (Int.toNat (42 : Int))) + (Int.toNat (24 : Int))) + (Int.toNat (6 : Int))) + (Int.toNat (48 : Int))) + (Int.toNat (48 : Int))) + (Int.toNat (768 : Int)) ≤ ms) ∧ ∀ h34, h34 = hnew h33 20 (Int.toNat (768 : Int)) →
 hk h34 a0 = 8 ∧ ∀ h35, h35 = hsr h34 a0 41 (hn h33) →
 (0 ≤ (36 : Int) ∧ (36 : Int) ≤ (100000 : Int)) ∧ ((((((((((((((((((c + 1) + 1) + 1) + 1) + 1) + 1) + 1) + 1) + 1) + 1) + 1) + 1) + 1) + 1) + 1) + 1) + 1) + 1 ≤ mc ∧ (((((((((((((((((s + (Int.toNat (56 : Int))) + (Int.toNat (42 : Int))) + (Int.toNat (48 : Int))) + (Int.toNat (48 : Int))) + (Int.toNat (768 : Int))) + (Int.toNat (861 : Int))) + (Int.toNat (861 : Int))) + (Int.toNat (8610 : Int))) + (Int.toNat (2 : Int))) + (Int.toNat (700 : Int))) + (Int.toNat (56 : Int))) + (Int.toNat (42 : Int))) + (Int.toNat (24 : Int))) + (Int.toNat (6 : Int))) + (Int.toNat (48 : Int))) + (Int.toNat (48 : Int))) + (Int.toNat (768 : Int))) + (Int.toNat (36 : Int)) ≤ ms) ∧ ∀ h36, h36 = hnew h35 20 (Int.toNat (36 : Int)) →
 hk h36 a0 = 8 ∧ ∀ h37, h37 = hsr h36 a0 42 (hn h35) →
 hk h37 a0 = 8 ∧ ∀ h38, h38 = hsi h37 a0 43 ((-1)) →
 (0 ≤ (600 : Int) ∧ (600 : Int) ≤ (100000 : Int)) ∧ (((((((((((((((((((c + 1) + 1) + 1) + 1) + 1) + 1) + 1) + 1) + 1) + 1) + 1) + 1) + 1) + 1) + 1) + 1) + 1) + 1) + 1 ≤ mc ∧ ((((((((((((((((((s + (Int.toNat (56 : Int))) + (Int.toNat (42 : Int))) + (Int.toNat (48 : Int))) + (Int.toNat (48 : Int))) + (Int.toNat (768 : Int))) + (Int.toNat (861 : Int))) + (Int.toNat (861 : Int))) + (Int.toNat (8610 : Int))) + (Int.toNat (2 : Int))) + (Int.toNat (700 : Int))) + (Int.toNat (56 : Int))) + (Int.toNat (42 : Int))) + (Int.toNat (24 : Int))) + (Int.toNat (6 : Int))) + (Int.toNat (48 : Int))) + (Int.toNat (48 : Int))) + (Int.toNat (768 : Int))) + (Int.toNat (36 : Int))) + (Int.toNat (600 : Int)) ≤ ms) ∧ ∀ h39, h39 = hnew h38 20 (Int.toNat (600 : Int)) →
 hk h39 a0 = 8 ∧ ∀ h40, h40 = hsr h39 a0 45 (hn h38) →
 Q 0 h40) : wpc k_X7_init [] call mc ms fr Q X [] K 400 (pto 0 k_X7_init) [some (pA a0)] [] h c s :=
  H

set_option maxRecDepth 100000 in
theorem v_X6_init_0 (a0 : Nat) (h : PH) (c s : Nat) (H : a0 ≠ 0 ∧ (0 ≤ (700 : Int) ∧ (700 : Int) ≤ (100000 : Int)) ∧ (c + 1 ≤ mc ∧ s + (Int.toNat (700 : Int)) ≤ ms) ∧ ∀ h1, h1 = hnew h 21 (Int.toNat (700 : Int)) →
 hk h1 a0 = 7 ∧ ∀ h2, h2 = hsr h1 a0 0 (hn h) →
 hk h2 a0 = 7 ∧ ∀ h3, h3 = hsi h2 a0 3 ((-1)) →
 ((c + 1) + 1 ≤ mc ∧ (s + (Int.toNat (700 : Int))) + 5 ≤ ms) ∧ ∀ h4, h4 = hnew h3 6 5 →
 hk h4 (hn h3) = 6 ∧ (((c + 1) + 1) + 10 ≤ mc ∧ ((s + (Int.toNat (700 : Int))) + 5) + 1200 ≤ ms) ∧ call m_X5_init [pA (hn h3)] h4 (fun _ h5 =>
 hk h5 a0 = 7 ∧ ∀ h6, h6 = hsr h5 a0 5 (hn h3) →
 ((((c + 1) + 1) + 10) + 1 ≤ mc ∧ (((s + (Int.toNat (700 : Int))) + 5) + 1200) + 15 ≤ ms) ∧ ∀ h7, h7 = hnew h6 1 15 →
 hk h7 (hn h6) = 1 ∧ (((((c + 1) + 1) + 10) + 1) + 15 ≤ mc ∧ ((((s + (Int.toNat (700 : Int))) + 5) + 1200) + 15) + 1600 ≤ ms) ∧ call m_X0_init [pA (hn h6)] h7 (fun _ h8 =>
 hk h8 a0 = 7 ∧ ∀ h9, h9 = hsr h8 a0 6 (hn h6) →
 ((((((c + 1) + 1) + 10) + 1) + 15) + 1 ≤ mc ∧ (((((s + (Int.toNat (700 : Int))) + 5) + 1200) + 15) + 1600) + 5 ≤ ms) ∧ ∀ h10, h10 = hnew h9 6 5 →
 hk h10 (hn h9) = 6 ∧ (((((((c + 1) + 1) + 10) + 1) + 15) + 1) + 10 ≤ mc ∧ ((((((s + (Int.toNat (700 : Int))) + 5) + 1200) + 15) + 1600) + 5) + 1200 ≤ ms) ∧ call m_X5_init [pA (hn h9)] h10 (fun _ h11 =>
 hk h11 a0 = 7 ∧ ∀ h12, h12 = hsr h11 a0 7 (hn h9) →
 ((((((((c + 1) + 1) + 10) + 1) + 15) + 1) + 10) + 1 ≤ mc ∧ (((((((s + (Int.toNat (700 : Int))) + 5) + 1200) + 15) + 1600) + 5) + 1200) + 15 ≤ ms) ∧ ∀ h13, h13 = hnew h12 1 15 →
 hk h13 (hn h12) = 1 ∧ (((((((((c + 1) + 1) + 10) + 1) + 15) + 1) + 10) + 1) + 15 ≤ mc ∧ ((((((((s + (Int.toNat (700 : Int))) + 5) + 1200) + 15) + 1600) + 5) + 1200) + 15) + 1600 ≤ ms) ∧ call m_X0_init [pA (hn h12)] h13 (fun _ h14 =>
 hk h14 a0 = 7 ∧ ∀ h15, h15 = hsr h14 a0 8 (hn h12) →
 (0 ≤ (8 : Int) ∧ (8 : Int) ≤ (100000 : Int)) ∧ ((((((((((c + 1) + 1) + 10) + 1) + 15) + 1) + 10) + 1) + 15) + 1 ≤ mc ∧ (((((((((s + (Int.toNat (700 : Int))) + 5) + 1200) + 15) + 1600) + 5) + 1200) + 15) + 1600) + (Int.toNat (8 : Int)) ≤ ms) ∧ ∀ h16, h16 = hnew h15 25 (Int.toNat (8 : Int)) →
 hk h16 a0 = 7 ∧ ∀ h17, h17 = hsr h16 a0 9 (hn h15) →
 (0 ≤ (2 : Int) ∧ (2 : Int) ≤ (100000 : Int)) ∧ (((((((((((c + 1) + 1) + 10) + 1) + 15) + 1) + 10) + 1) + 15) + 1) + 1 ≤ mc ∧ ((((((((((s + (Int.toNat (700 : Int))) + 5) + 1200) + 15) + 1600) + 5) + 1200) + 15) + 1600) + (Int.toNat (8 : Int))) + (Int.toNat (2 : Int)) ≤ ms) ∧ ∀ h18, h18 = hnew h17 25 (Int.toNat (2 : Int)) →
 hk h18 a0 = 7 ∧ ∀ h19, h19 = hsr h18 a0 12 (hn h17) →
 (0 ≤ (2 : Int) ∧ (2 : Int) ≤ (100000 : Int)) ∧ ((((((((((((c + 1) + 1) + 10) + 1) + 15) + 1) + 10) + 1) + 15) + 1) + 1) + 1 ≤ mc ∧ (((((((((((s + (Int.toNat (700 : Int))) + 5) + 1200) + 15) + 1600) + 5) + 1200) + 15) + 1600) + (Int.toNat (8 : Int))) + (Int.toNat (2 : Int))) + (Int.toNat (2 : Int)) ≤ ms) ∧ ∀ h20, h20 = hnew h19 22 (Int.toNat (2 : Int)) →
 hk h20 a0 = 7 ∧ ∀ h21, h21 = hsr h20 a0 13 (hn h19) →
 (((((((((((((c + 1) + 1) + 10) + 1) + 15) + 1) + 10) + 1) + 15) + 1) + 1) + 1) + 1 ≤ mc ∧ ((((((((((((s + (Int.toNat (700 : Int))) + 5) + 1200) + 15) + 1600) + 5) + 1200) + 15) + 1600) + (Int.toNat (8 : Int))) + (Int.toNat (2 : Int))) + (Int.toNat (2 : Int))) + 2 ≤ ms) ∧ ∀ h22, h22 = hnew h21 4 2 →
 hk h22 (hn h21) = 4 ∧ ((((((((((((((c + 1) + 1) + 10) + 1) + 15) + 1) + 10) + 1) + 15) + 1) + 1) + 1) + 1) + 1 ≤ mc ∧ (((((((((((((s + (Int.toNat (700 : Int))) + 5) + 1200) + 15) + 1600) + 5) + 1200) + 15) + 1600) + (Int.toNat (8 : Int))) + (Int.toNat (2 : Int))) + (Int.toNat (2 : Int))) + 2) + 400 ≤ ms) ∧ call m_X3_init [pA (hn h21)] h22 (fun _ h23 =>
 hk h23 a0 = 7 ∧ ∀ h24, h24 = hsr h23 a0 14 (hn h21) →
 Q 0 h24) X) X) X) X) X) : wpc k_X6_init [] call mc ms fr Q X [] K 400 (pto 0 k_X6_init) [some (pA a0)] [] h c s :=
  H

end CKV
theorem S_X2_init_1 {d a : Nat} {h0 h : PH} {E : Nat → Int → Int} {V : Nat → Nat → Nat} {Q : Int → PH → Prop} {X : Nat → PH → Prop} (A : AL h0 h a 2 kP lP E V) (he : ∀ j, 1 < j → E j = fun _ => 0) (hv : ∀ j, 1 < j → V j = fun _ => 0) (H : ∀ h', AL h0 h' a 4 kP lP E (vst (vst V 1 0 (a + 2)) 1 1 (a + 3)) → Q 0 h') : RUN GQ (d + 1) m_X2_init [pA (a + 1)] h Q X := by
  rw [e_X2_init]
  refine WP.of (RUN.mono GQ _) (cuts := []) (n := 400) (v_X2_init_0 _ _ _ _ ?_)
  refine ⟨(by omega), ?_⟩
  refine ⟨⟨by omega, by omega⟩, ⟨by omega, by omega⟩, ?_⟩
  rw [A.n]
  refine A.new 20 _ rfl rfl (fun e => by (try rw [dst_row (by decide)]); rw [he _ (by decide)]) (fun f => by first | rw [hv _ (by decide)] | (unfold vst; rw [if_neg (by omega), hv _ (by decide)])) (fun h0 A0 => ?_)
  refine A0.pr 1 0 _ _ (by decide) rfl (fun h1 A1 => ?_)
  refine ⟨⟨by omega, by omega⟩, ⟨by omega, by omega⟩, ?_⟩
  rw [A1.n]
  refine A1.new 21 _ rfl rfl (fun e => by (try rw [dst_row (by decide)]); rw [he _ (by decide)]) (fun f => by first | rw [hv _ (by decide)] | (unfold vst; rw [if_neg (by omega), hv _ (by decide)])) (fun h2 A2 => ?_)
  refine A2.pr 1 1 _ _ (by decide) rfl (fun h3 A3 => ?_)
  exact H _ A3
theorem S_X2_init_4 {d a : Nat} {h0 h : PH} {E : Nat → Int → Int} {V : Nat → Nat → Nat} {Q : Int → PH → Prop} {X : Nat → PH → Prop} (A : AL h0 h a 5 kP lP E V) (he : ∀ j, 4 < j → E j = fun _ => 0) (hv : ∀ j, 4 < j → V j = fun _ => 0) (H : ∀ h', AL h0 h' a 7 kP lP E (vst (vst V 4 0 (a + 5)) 4 1 (a + 6)) → Q 0 h') : RUN GQ (d + 1) m_X2_init [pA (a + 4)] h Q X := by
  rw [e_X2_init]
  refine WP.of (RUN.mono GQ _) (cuts := []) (n := 400) (v_X2_init_0 _ _ _ _ ?_)
  refine ⟨(by omega), ?_⟩
  refine ⟨⟨by omega, by omega⟩, ⟨by omega, by omega⟩, ?_⟩
  rw [A.n]
  refine A.new 20 _ rfl rfl (fun e => by (try rw [dst_row (by decide)]); rw [he _ (by decide)]) (fun f => by first | rw [hv _ (by decide)] | (unfold vst; rw [if_neg (by omega), hv _ (by decide)])) (fun h0 A0 => ?_)
  refine A0.pr 4 0 _ _ (by decide) rfl (fun h1 A1 => ?_)
  refine ⟨⟨by omega, by omega⟩, ⟨by omega, by omega⟩, ?_⟩
  rw [A1.n]
  refine A1.new 21 _ rfl rfl (fun e => by (try rw [dst_row (by decide)]); rw [he _ (by decide)]) (fun f => by first | rw [hv _ (by decide)] | (unfold vst; rw [if_neg (by omega), hv _ (by decide)])) (fun h2 A2 => ?_)
  refine A2.pr 4 1 _ _ (by decide) rfl (fun h3 A3 => ?_)
  exact H _ A3
theorem S_X5_init {d a : Nat} {h0 h : PH} {Q : Int → PH → Prop} {X : Nat → PH → Prop} (A : AL h0 h a 1 kP lP (fun _ _ => 0) (fun _ _ => 0)) (ha : a ≠ 0) (H : ∀ h' E', hn h' = a + 10 → (∀ r, r < a → SC h0 h' r) → Px a h' h' E' → Q 0 h') : RUN GQ (d + 2) m_X5_init [pA a] h Q X := by
  rw [e_X5_init]
  refine WP.of (RUN.mono GQ _) (cuts := []) (n := 400) (v_X5_init_0 _ _ _ _ ?_)
  refine ⟨(by omega), ?_⟩
  refine ⟨⟨by omega, by omega⟩, ?_⟩
  rw [A.n]
  refine A.new 3 3 rfl rfl (fun _ => rfl) (fun _ => rfl) (fun h0 A0 => ?_)
  refine ⟨(A0.k (j := 1) (by decide)), ⟨by omega, by omega⟩, S_X2_init_1 A0 (fun _ _ => rfl) (fun j h => by funext f; first | rfl | (unfold vst; (repeat rw [if_neg (by omega)]))) (fun h1 A1 => ?_)⟩
  refine A1.pr 0 0 _ _ (by decide) rfl (fun h2 A2 => ?_)
  refine ⟨⟨by omega, by omega⟩, ?_⟩
  rw [A2.n]
  refine A2.new 3 3 rfl rfl (fun _ => rfl) (fun _ => rfl) (fun h3 A3 => ?_)
  refine ⟨(A3.k (j := 4) (by decide)), ⟨by omega, by omega⟩, S_X2_init_4 A3 (fun _ _ => rfl) (fun j h => by funext f; first | rfl | (unfold vst; (repeat rw [if_neg (by omega)]))) (fun h4 A4 => ?_)⟩
  refine A4.pr 0 1 _ _ (by decide) rfl (fun h5 A5 => ?_)
  refine ⟨⟨by omega, by omega⟩, ⟨by omega, by omega⟩, ?_⟩
  rw [A5.n]
  refine A5.new 20 _ rfl rfl (fun _ => rfl) (fun _ => rfl) (fun h6 A6 => ?_)
  refine A6.pr 0 2 _ _ (by decide) rfl (fun h7 A7 => ?_)
  refine ⟨⟨by omega, by omega⟩, ⟨by omega, by omega⟩, ?_⟩
  rw [A7.n]
  refine A7.new 20 _ rfl rfl (fun _ => rfl) (fun _ => rfl) (fun h8 A8 => ?_)
  refine A8.pr 0 3 _ _ (by decide) rfl (fun h9 A9 => ?_)
  refine ⟨⟨by omega, by omega⟩, ⟨by omega, by omega⟩, ?_⟩
  rw [A9.n]
  refine A9.new 20 _ rfl rfl (fun _ => rfl) (fun _ => rfl) (fun h10 A10 => ?_)
  refine A10.pr 0 4 _ _ (by decide) rfl (fun h11 A11 => ?_)
  exact H _ _ A11.n A11.2.1 (A11.bx ha (by intro q hq; simp only [rP, List.mem_cons, List.not_mem_nil, or_false] at hq; rcases hq with rfl | rfl | rfl | rfl | rfl | rfl | rfl | rfl | rfl <;> exact ⟨by decide, rfl⟩))
theorem S_X3_init {d a : Nat} {h0 h : PH} {Q : Int → PH → Prop} {X : Nat → PH → Prop} (A : AL h0 h a 1 kO lO (fun _ _ => 0) (fun _ _ => 0)) (ha : a ≠ 0) (H : ∀ h', hn h' = a + 2 → (∀ r, r < a → SC h0 h' r) → Ox a h' h' (fun _ _ => 0) → Q 0 h') : RUN GQ (d + 1) m_X3_init [pA a] h Q X := by
  rw [e_X3_init]
  refine WP.of (RUN.mono GQ _) (cuts := []) (n := 400) (v_X3_init_0 _ _ _ _ ?_)
  refine ⟨(by omega), ⟨by omega, by omega⟩, ⟨by omega, by omega⟩, ?_⟩
  rw [A.n]
  refine A.new 21 _ rfl rfl (fun _ => rfl) (fun _ => rfl) (fun h0 A0 => ?_)
  refine A0.pr 0 0 _ _ (by decide) rfl (fun h1 A1 => ?_)
  exact H _ A1.n A1.2.1 (A1.bx ha (by intro q hq; simp only [rO, List.mem_cons, List.not_mem_nil, or_false] at hq; rcases hq with rfl; exact ⟨by decide, rfl⟩))
def kM : Nat → Nat := fun j => if j = 0 then 8 else if j = 9 then 22 else 20
def lM : Nat → Nat := fun j => if j = 0 then 47 else MLEN.getD j 0
/-- the model's rows as they begin -/
def D00 : Nat → Int → Int := dst (fun _ _ => 0) 0 19 (-1)
def s00 : Int → Int := fun e => if e = -1 then -1 else 0
theorem S_X7_init {d a : Nat} {h0 h : PH} {Q : Int → PH → Prop} {X : Nat → PH → Prop} (A : AL h0 h a 1 kM lM (fun _ _ => 0) (fun _ _ => 0)) (ha : a ≠ 0) (H : ∀ h', hn h' = a + 20 → (∀ r, r < a → SC h0 h' r) → Mt a h' h' D00 s00 0 → Q 0 h') : RUN GQ (d + 1) m_X7_init [pA a] h Q X := by
  rw [e_X7_init]
  refine WP.of (RUN.mono GQ _) (cuts := []) (n := 400) (v_X7_init_0 _ _ _ _ ?_)
  refine ⟨(by omega), ?_⟩
  refine ⟨⟨by omega, by omega⟩, ⟨by omega, by omega⟩, ?_⟩
  rw [A.n]
  refine A.new 20 _ rfl rfl (fun _ => rfl) (fun _ => rfl) (fun h0 A0 => ?_)
  refine A0.pr 0 6 _ _ (by decide) rfl (fun h1 A1 => ?_)
  refine ⟨⟨by omega, by omega⟩, ⟨by omega, by omega⟩, ?_⟩
  rw [A1.n]
  refine A1.new 20 _ rfl rfl (fun _ => rfl) (fun _ => rfl) (fun h2 A2 => ?_)
  refine A2.pr 0 7 _ _ (by decide) rfl (fun h3 A3 => ?_)
  refine ⟨⟨by omega, by omega⟩, ⟨by omega, by omega⟩, ?_⟩
  rw [A3.n]
  refine A3.new 20 _ rfl rfl (fun _ => rfl) (fun _ => rfl) (fun h4 A4 => ?_)
  refine A4.pr 0 8 _ _ (by decide) rfl (fun h5 A5 => ?_)
  refine ⟨⟨by omega, by omega⟩, ⟨by omega, by omega⟩, ?_⟩
  rw [A5.n]
  refine A5.new 20 _ rfl rfl (fun _ => rfl) (fun _ => rfl) (fun h6 A6 => ?_)
  refine A6.pr 0 9 _ _ (by decide) rfl (fun h7 A7 => ?_)
  refine ⟨⟨by omega, by omega⟩, ⟨by omega, by omega⟩, ?_⟩
  rw [A7.n]
  refine A7.new 20 _ rfl rfl (fun _ => rfl) (fun _ => rfl) (fun h8 A8 => ?_)
  refine A8.pr 0 10 _ _ (by decide) rfl (fun h9 A9 => ?_)
  refine ⟨⟨by omega, by omega⟩, ⟨by omega, by omega⟩, ?_⟩
  rw [A9.n]
  refine A9.new 20 _ rfl rfl (fun _ => rfl) (fun _ => rfl) (fun h10 A10 => ?_)
  refine A10.pr 0 11 _ _ (by decide) rfl (fun h11 A11 => ?_)
  refine ⟨⟨by omega, by omega⟩, ⟨by omega, by omega⟩, ?_⟩
  rw [A11.n]
  refine A11.new 20 _ rfl rfl (fun _ => rfl) (fun _ => rfl) (fun h12 A12 => ?_)
  refine A12.pr 0 12 _ _ (by decide) rfl (fun h13 A13 => ?_)
  refine ⟨⟨by omega, by omega⟩, ⟨by omega, by omega⟩, ?_⟩
  rw [A13.n]
  refine A13.new 20 _ rfl rfl (fun _ => rfl) (fun _ => rfl) (fun h14 A14 => ?_)
  refine A14.pr 0 13 _ _ (by decide) rfl (fun h15 A15 => ?_)
  refine ⟨⟨by omega, by omega⟩, ⟨by omega, by omega⟩, ?_⟩
  rw [A15.n]
  refine A15.new 22 _ rfl rfl (fun _ => rfl) (fun _ => rfl) (fun h16 A16 => ?_)
  refine A16.pr 0 15 _ _ (by decide) rfl (fun h17 A17 => ?_)
  refine ⟨⟨by omega, by omega⟩, ⟨by omega, by omega⟩, ?_⟩
  rw [A17.n]
  refine A17.new 20 _ rfl rfl (fun _ => rfl) (fun _ => rfl) (fun h18 A18 => ?_)
  refine A18.pr 0 16 _ _ (by decide) rfl (fun h19 A19 => ?_)
  refine A19.pi 0 19 _ (by decide) rfl (fun h20 A20 => ?_)
  refine ⟨⟨by omega, by omega⟩, ⟨by omega, by omega⟩, ?_⟩
  rw [A20.n]
  refine A20.new 20 _ rfl rfl (fun _ => rfl) (fun _ => rfl) (fun h21 A21 => ?_)
  refine A21.pr 0 35 _ _ (by decide) rfl (fun h22 A22 => ?_)
  refine ⟨⟨by omega, by omega⟩, ⟨by omega, by omega⟩, ?_⟩
  rw [A22.n]
  refine A22.new 20 _ rfl rfl (fun _ => rfl) (fun _ => rfl) (fun h23 A23 => ?_)
  refine A23.pr 0 36 _ _ (by decide) rfl (fun h24 A24 => ?_)
  refine ⟨⟨by omega, by omega⟩, ⟨by omega, by omega⟩, ?_⟩
  rw [A24.n]
  refine A24.new 20 _ rfl rfl (fun _ => rfl) (fun _ => rfl) (fun h25 A25 => ?_)
  refine A25.pr 0 37 _ _ (by decide) rfl (fun h26 A26 => ?_)
  refine ⟨⟨by omega, by omega⟩, ⟨by omega, by omega⟩, ?_⟩
  rw [A26.n]
  refine A26.new 20 _ rfl rfl (fun _ => rfl) (fun _ => rfl) (fun h27 A27 => ?_)
  refine A27.pr 0 38 _ _ (by decide) rfl (fun h28 A28 => ?_)
  refine ⟨⟨by omega, by omega⟩, ⟨by omega, by omega⟩, ?_⟩
  rw [A28.n]
  refine A28.new 20 _ rfl rfl (fun _ => rfl) (fun _ => rfl) (fun h29 A29 => ?_)
  refine A29.pr 0 39 _ _ (by decide) rfl (fun h30 A30 => ?_)
  refine ⟨⟨by omega, by omega⟩, ⟨by omega, by omega⟩, ?_⟩
  rw [A30.n]
  refine A30.new 20 _ rfl rfl (fun _ => rfl) (fun _ => rfl) (fun h31 A31 => ?_)
  refine A31.pr 0 40 _ _ (by decide) rfl (fun h32 A32 => ?_)
  refine ⟨⟨by omega, by omega⟩, ⟨by omega, by omega⟩, ?_⟩
  rw [A32.n]
  refine A32.new 20 _ rfl rfl (fun _ => rfl) (fun _ => rfl) (fun h33 A33 => ?_)
  refine A33.pr 0 41 _ _ (by decide) rfl (fun h34 A34 => ?_)
  refine ⟨⟨by omega, by omega⟩, ⟨by omega, by omega⟩, ?_⟩
  rw [A34.n]
  refine A34.new 20 _ rfl rfl (fun _ => rfl) (fun _ => rfl) (fun h35 A35 => ?_)
  refine A35.pr 0 42 _ _ (by decide) rfl (fun h36 A36 => ?_)
  refine A36.pi 0 43 _ (by decide) rfl (fun h37 A37 => ?_)
  refine ⟨⟨by omega, by omega⟩, ⟨by omega, by omega⟩, ?_⟩
  rw [A37.n]
  refine A37.new 20 _ rfl rfl (fun _ => rfl) (fun _ => rfl) (fun h38 A38 => ?_)
  refine A38.pr 0 45 _ _ (by decide) rfl (fun h39 A39 => ?_)
  have hkk : ∀ j, j < 20 → hk h39 (a + j) = kM j ∧ hl h39 (a + j) = lM j := fun j hj => (A39.2.2 j hj).1
  have hii : ∀ j, j < 20 → ∀ e : Int, 0 ≤ e → hi h39 (a + j) e.toNat = dst (dst (fun _ _ => 0) 0 19 (-1)) 0 43 (-1) j e := fun j hj => (A39.2.2 j hj).2.1
  refine H h39 A39.n A39.2.1 ⟨⟨(hkk 0 (by decide)).1, ha, ?_, fun j a1 a2 => ?_⟩, Sa.rfl', fun j e hj h6 he hf => ?_, fun e he => ?_, ?_, ?_⟩
  · have hrr := (A39.2.2 0 (by decide)).2.2
    intro q hq
    simp only [MREF, List.mem_cons, List.not_mem_nil, or_false] at hq
    rcases hq with rfl | rfl | rfl | rfl | rfl | rfl | rfl | rfl | rfl | rfl | rfl | rfl | rfl | rfl | rfl | rfl | rfl | rfl | rfl <;> exact (hrr _).trans rfl
  · obtain ⟨b1, b2⟩ := hkk j (by omega)
    rw [b1, b2]
    unfold kM lM
    rw [if_neg (show ¬ j = 0 by omega), if_neg (show ¬ j = 0 by omega)]
    exact ⟨rfl, rfl⟩
  · rw [hii j hj e he]
    unfold D00
    by_cases z : j = 0
    · subst z
      have z4 := hf rfl
      rw [dst_ne (by omega)]
      by_cases z0 : e = 0
      · rw [z0, dst_eq, dst_ne (by decide)]
      · rw [dst_ne z0]
    · repeat rw [dst_row z]
  · rw [hii 6 (by decide) e he, dst_row (by decide), dst_row (by decide)]
    unfold s00
    rw [if_neg (by omega)]
  · exact (hii 0 (by decide) 43 (by decide)).trans (dst_eq _ _ _ _)
  · refine (hii 0 (by decide) 44 (by decide)).trans ?_
    rw [dst_ne (by decide), dst_ne (by decide)]
    rfl
