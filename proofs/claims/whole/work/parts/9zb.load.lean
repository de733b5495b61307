/-! the model loads (written by wip/whole/tools/eng.py) -/
section VCS
variable {call : PC} {mc ms fr : Nat} {Q : Int → PH → Prop} {X : Nat → PH → Prop} {K : PK}
set_option maxRecDepth 100000 in
theorem v_X7_load_0 (a0 : Nat) (i1 : Int) (h : PH) (c s : Nat) (H : hk h a0 = 8 ∧ ∀ h1, h1 = hsi h a0 0 0 →
 hk h1 a0 = 8 ∧ call m_X7_in [pI i1, pI 0, pI (hi h1 a0 17)] h1 (fun x2 h2 =>
 InR x2 ∧ (x2 = 0 →
 hk h2 a0 = 8 ∧ call m_X7_refuse [pA a0, pI 1, pI 1] h2 (fun x3 h3 =>
 InR x3 ∧ (x3 = 0 →
 hk h3 a0 = 8 ∧ ∀ h4, h4 = hsi h3 a0 17 0 →
 hk h4 a0 = 8 ∧ call m_X7_reads [pA a0, pI i1] h4 (fun _ h5 =>
 hk h5 a0 = 8 ∧ hk h5 a0 = 8 ∧ ∀ h6, h6 = hsi h5 a0 18 (hi h5 a0 25) →
 hk h6 a0 = 8 ∧ InR (hi h6 a0 25) ∧ ((hi h6 a0 25) = 0 →
 hk h6 a0 = 8 ∧ ∀ h7, h7 = hsi h6 a0 19 ((-1)) →
 hk h7 a0 = 8 ∧ InR (hi h7 a0 25) ∧ ((hi h7 a0 25) = 0 →
 hk h7 a0 = 8 ∧ call m_X7_refuse [pA a0, pI 0, pI 2] h7 (fun x8 h8 =>
 InR x8 ∧ (x8 = 0 →
 hk h8 a0 = 8 ∧ ((1 : Int) = 0 ∨ (1 : Int) = 1) ∧ ∀ h9, h9 = hsi h8 a0 1 1 →
 hk h9 a0 = 8 ∧ call m_X7_becomes [pA a0] h9 (fun _ h10 =>
 hk h10 a0 = 8 ∧ ∀ h11, h11 = hsi h10 a0 14 0 →
 hk h11 a0 = 8 ∧ hk h11 (hr h11 a0 15) = 22 ∧ (0 ≤ (0 : Int) ∧ (0 : Int) < (hl h11 (hr h11 a0 15) : Int)) ∧ ((0 : Int) = 0 ∨ (0 : Int) = 1) ∧ ∀ h12, h12 = hsi h11 (hr h11 a0 15) (Int.toNat (0 : Int)) 0 →
 hk h12 a0 = 8 ∧ hk h12 (hr h12 a0 15) = 22 ∧ (0 ≤ (1 : Int) ∧ (1 : Int) < (hl h12 (hr h12 a0 15) : Int)) ∧ ((0 : Int) = 0 ∨ (0 : Int) = 1) ∧ ∀ h13, h13 = hsi h12 (hr h12 a0 15) (Int.toNat (1 : Int)) 0 →
 hk h13 a0 = 8 ∧ Q (hi h13 a0 4) h13) X) ∧
(x8 ≠ 0 →
 Q 0 h8)) X) ∧
((hi h7 a0 25) ≠ 0 →
 hk h7 a0 = 8 ∧ call m_X7_refuse [pA a0, pI 1, pI 2] h7 (fun x14 h14 =>
 InR x14 ∧ (x14 = 0 →
 hk h14 a0 = 8 ∧ ((1 : Int) = 0 ∨ (1 : Int) = 1) ∧ ∀ h15, h15 = hsi h14 a0 1 1 →
 hk h15 a0 = 8 ∧ call m_X7_becomes [pA a0] h15 (fun _ h16 =>
 hk h16 a0 = 8 ∧ ∀ h17, h17 = hsi h16 a0 14 0 →
 hk h17 a0 = 8 ∧ hk h17 (hr h17 a0 15) = 22 ∧ (0 ≤ (0 : Int) ∧ (0 : Int) < (hl h17 (hr h17 a0 15) : Int)) ∧ ((0 : Int) = 0 ∨ (0 : Int) = 1) ∧ ∀ h18, h18 = hsi h17 (hr h17 a0 15) (Int.toNat (0 : Int)) 0 →
 hk h18 a0 = 8 ∧ hk h18 (hr h18 a0 15) = 22 ∧ (0 ≤ (1 : Int) ∧ (1 : Int) < (hl h18 (hr h18 a0 15) : Int)) ∧ ((0 : Int) = 0 ∨ (0 : Int) = 1) ∧ ∀ h19, h19 = hsi h18 (hr h18 a0 15) (Int.toNat (1 : Int)) 0 →
 hk h19 a0 = 8 ∧ Q (hi h19 a0 4) h19) X) ∧
(x14 ≠ 0 →
 Q 0 h14)) X)) ∧
((hi h6 a0 25) ≠ 0 →
 hk h6 a0 = 8 ∧ hk h6 a0 = 8 ∧ ∀ h20, h20 = hsi h6 a0 19 (hi h6 a0 26) →
 hk h20 a0 = 8 ∧ InR (hi h20 a0 25) ∧ ((hi h20 a0 25) = 0 →
 hk h20 a0 = 8 ∧ call m_X7_refuse [pA a0, pI 0, pI 2] h20 (fun x21 h21 =>
 InR x21 ∧ (x21 = 0 →
 hk h21 a0 = 8 ∧ ((1 : Int) = 0 ∨ (1 : Int) = 1) ∧ ∀ h22, h22 = hsi h21 a0 1 1 →
 hk h22 a0 = 8 ∧ call m_X7_becomes [pA a0] h22 (fun _ h23 =>
 hk h23 a0 = 8 ∧ ∀ h24, h24 = hsi h23 a0 14 0 →
 hk h24 a0 = 8 ∧ hk h24 (hr h24 a0 15) = 22 ∧ (0 ≤ (0 : Int) ∧ (0 : Int) < (hl h24 (hr h24 a0 15) : Int)) ∧ ((0 : Int) = 0 ∨ (0 : Int) = 1) ∧ ∀ h25, h25 = hsi h24 (hr h24 a0 15) (Int.toNat (0 : Int)) 0 →
 hk h25 a0 = 8 ∧ hk h25 (hr h25 a0 15) = 22 ∧ (0 ≤ (1 : Int) ∧ (1 : Int) < (hl h25 (hr h25 a0 15) : Int)) ∧ ((0 : Int) = 0 ∨ (0 : Int) = 1) ∧ ∀ h26, h26 = hsi h25 (hr h25 a0 15) (Int.toNat (1 : Int)) 0 →
 hk h26 a0 = 8 ∧ Q (hi h26 a0 4) h26) X) ∧
(x21 ≠ 0 →
 Q 0 h21)) X) ∧
((hi h20 a0 25) ≠ 0 →
 hk h20 a0 = 8 ∧ call m_X7_refuse [pA a0, pI 1, pI 2] h20 (fun x27 h27 =>
 InR x27 ∧ (x27 = 0 →
 hk h27 a0 = 8 ∧ ((1 : Int) = 0 ∨ (1 : Int) = 1) ∧ ∀ h28, h28 = hsi h27 a0 1 1 →
 hk h28 a0 = 8 ∧ call m_X7_becomes [pA a0] h28 (fun _ h29 =>
 hk h29 a0 = 8 ∧ ∀ h30, h30 = hsi h29 a0 14 0 →
 hk h30 a0 = 8 ∧ hk h30 (hr h30 a0 15) = 22 ∧ (0 ≤ (0 : Int) ∧ (0 : Int) < (hl h30 (hr h30 a0 15) : Int)) ∧ ((0 : Int) = 0 ∨ (0 : Int) = 1) ∧ ∀ h31, h31 = hsi h30 (hr h30 a0 15) (Int.toNat (0 : Int)) 0 →
 hk h31 a0 = 8 ∧ hk h31 (hr h31 a0 15) = 22 ∧ (0 ≤ (1 : Int) ∧ (1 : Int) < (hl h31 (hr h31 a0 15) : Int)) ∧ ((0 : Int) = 0 ∨ (0 : Int) = 1) ∧ ∀ h32, h32 = hsi h31 (hr h31 a0 15) (Int.toNat (1 : Int)) 0 →
 hk h32 a0 = 8 ∧ Q (hi h32 a0 4) h32) X) ∧
(x27 ≠ 0 →
 Q 0 h27)) X))) X) ∧
(x3 ≠ 0 →
 Q 0 h3)) X) ∧
(x2 ≠ 0 →
 hk h2 a0 = 8 ∧ call m_X7_refuse [pA a0, pI 0, pI 1] h2 (fun x33 h33 =>
 InR x33 ∧ (x33 = 0 →
 hk h33 a0 = 8 ∧ ∀ h34, h34 = hsi h33 a0 17 0 →
 hk h34 a0 = 8 ∧ call m_X7_reads [pA a0, pI i1] h34 (fun _ h35 =>
 hk h35 a0 = 8 ∧ hk h35 a0 = 8 ∧ ∀ h36, h36 = hsi h35 a0 18 (hi h35 a0 25) →
 hk h36 a0 = 8 ∧ InR (hi h36 a0 25) ∧ ((hi h36 a0 25) = 0 →
 hk h36 a0 = 8 ∧ ∀ h37, h37 = hsi h36 a0 19 ((-1)) →
 hk h37 a0 = 8 ∧ InR (hi h37 a0 25) ∧ ((hi h37 a0 25) = 0 →
 hk h37 a0 = 8 ∧ call m_X7_refuse [pA a0, pI 0, pI 2] h37 (fun x38 h38 =>
 InR x38 ∧ (x38 = 0 →
 hk h38 a0 = 8 ∧ ((1 : Int) = 0 ∨ (1 : Int) = 1) ∧ ∀ h39, h39 = hsi h38 a0 1 1 →
 hk h39 a0 = 8 ∧ call m_X7_becomes [pA a0] h39 (fun _ h40 =>
 hk h40 a0 = 8 ∧ ∀ h41, h41 = hsi h40 a0 14 0 →
 hk h41 a0 = 8 ∧ hk h41 (hr h41 a0 15) = 22 ∧ (0 ≤ (0 : Int) ∧ (0 : Int) < (hl h41 (hr h41 a0 15) : Int)) ∧ ((0 : Int) = 0 ∨ (0 : Int) = 1) ∧ ∀ h42, h42 = hsi h41 (hr h41 a0 15) (Int.toNat (0 : Int)) 0 →
 hk h42 a0 = 8 ∧ hk h42 (hr h42 a0 15) = 22 ∧ (0 ≤ (1 : Int) ∧ (1 : Int) < (hl h42 (hr h42 a0 15) : Int)) ∧ ((0 : Int) = 0 ∨ (0 : Int) = 1) ∧ ∀ h43, h43 = hsi h42 (hr h42 a0 15) (Int.toNat (1 : Int)) 0 →
 hk h43 a0 = 8 ∧ Q (hi h43 a0 4) h43) X) ∧
(x38 ≠ 0 →
 Q 0 h38)) X) ∧
((hi h37 a0 25) ≠ 0 →
 hk h37 a0 = 8 ∧ call m_X7_refuse [pA a0, pI 1, pI 2] h37 (fun x44 h44 =>
 InR x44 ∧ (x44 = 0 →
 hk h44 a0 = 8 ∧ ((1 : Int) = 0 ∨ (1 : Int) = 1) ∧ ∀ h45, h45 = hsi h44 a0 1 1 →
 hk h45 a0 = 8 ∧ call m_X7_becomes [pA a0] h45 (fun _ h46 =>
 hk h46 a0 = 8 ∧ ∀ h47, h47 = hsi h46 a0 14 0 →
 hk h47 a0 = 8 ∧ hk h47 (hr h47 a0 15) = 22 ∧ (0 ≤ (0 : Int) ∧ (0 : Int) < (hl h47 (hr h47 a0 15) : Int)) ∧ ((0 : Int) = 0 ∨ (0 : Int) = 1) ∧ ∀ h48, h48 = hsi h47 (hr h47 a0 15) (Int.toNat (0 : Int)) 0 →
 hk h48 a0 = 8 ∧ hk h48 (hr h48 a0 15) = 22 ∧ (0 ≤ (1 : Int) ∧ (1 : Int) < (hl h48 (hr h48 a0 15) : Int)) ∧ ((0 : Int) = 0 ∨ (0 : Int) = 1) ∧ ∀ h49, h49 = hsi h48 (hr h48 a0 15) (Int.toNat (1 : Int)) 0 →
 hk h49 a0 = 8 ∧ Q (hi h49 a0 4) h49) X) ∧
(x44 ≠ 0 →
 Q 0 h44)) X)) ∧
((hi h36 a0 25) ≠ 0 →
 hk h36 a0 = 8 ∧ hk h36 a0 = 8 ∧ ∀ h50, h50 = hsi h36 a0 19 (hi h36 a0 26) →
 hk h50 a0 = 8 ∧ InR (hi h50 a0 25) ∧ ((hi h50 a0 25) = 0 →
 hk h50 a0 = 8 ∧ call m_X7_refuse [pA a0, pI 0, pI 2] h50 (fun x51 h51 =>
 InR x51 ∧ (x51 = 0 →
 hk h51 a0 = 8 ∧ ((1 : Int) = 0 ∨ (1 : Int) = 1) ∧ ∀ h52, h52 = hsi h51 a0 1 1 →
 hk h52 a0 = 8 ∧ call m_X7_becomes [pA a0] h52 (fun _ h53 =>
 hk h53 a0 = 8 ∧ ∀ h54, h54 = hsi h53 a0 14 0 →
 hk h54 a0 = 8 ∧ hk h54 (hr h54 a0 15) = 22 ∧ (0 ≤ (0 : Int) ∧ (0 : Int) < (hl h54 (hr h54 a0 15) : Int)) ∧ ((0 : Int) = 0 ∨ (0 : Int) = 1) ∧ ∀ h55, h55 = hsi h54 (hr h54 a0 15) (Int.toNat (0 : Int)) 0 →
 hk h55 a0 = 8 ∧ hk h55 (hr h55 a0 15) = 22 ∧ (0 ≤ (1 : Int) ∧ (1 : Int) < (hl h55 (hr h55 a0 15) : Int)) ∧ ((0 : Int) = 0 ∨ (0 : Int) = 1) ∧ ∀ h56, h56 = hsi h55 (hr h55 a0 15) (Int.toNat (1 : Int)) 0 →
 hk h56 a0 = 8 ∧ Q (hi h56 a0 4) h56) X) ∧
(x51 ≠ 0 →
 Q 0 h51)) X) ∧
((hi h50 a0 25) ≠ 0 →
 hk h50 a0 = 8 ∧ call m_X7_refuse [pA a0, pI 1, pI 2] h50 (fun x57 h57 =>
 InR x57 ∧ (x57 = 0 →
 hk h57 a0 = 8 ∧ ((1 : Int) = 0 ∨ (1 : Int) = 1) ∧ ∀ h58, h58 = hsi h57 a0 1 1 →
 hk h58 a0 = 8 ∧ call m_X7_becomes [pA a0] h58 (fun _ h59 =>
 hk h59 a0 = 8 ∧ ∀ h60, h60 = hsi h59 a0 14 0 →
 hk h60 a0 = 8 ∧ hk h60 (hr h60 a0 15) = 22 ∧ (0 ≤ (0 : Int) ∧ (0 : Int) < (hl h60 (hr h60 a0 15) : Int)) ∧ ((0 : Int) = 0 ∨ (0 : Int) = 1) ∧ ∀ h61, h61 = hsi h60 (hr h60 a0 15) (Int.toNat (0 : Int)) 0 →
 hk h61 a0 = 8 ∧ hk h61 (hr h61 a0 15) = 22 ∧ (0 ≤ (1 : Int) ∧ (1 : Int) < (hl h61 (hr h61 a0 15) : Int)) ∧ ((0 : Int) = 0 ∨ (0 : Int) = 1) ∧ ∀ h62, h62 = hsi h61 (hr h61 a0 15) (Int.toNat (1 : Int)) 0 →
 hk h62 a0 = 8 ∧ Q (hi h62 a0 4) h62) X) ∧
(x57 ≠ 0 →
 Q 0 h57)) X))) X) ∧
(x33 ≠ 0 →
 Q 0 h33)) X)) X) : wpc k_X7_load [] call mc ms fr Q X [] K 400 (pto 0 k_X7_load) [some (pA a0), some (pI i1)] [] h c s :=
  H
end VCS
theorem S_X7_load {d b : Nat} {h0 h : PH} {D : Nat → Int → Int} {s : Int → Int} {t : Int} {Q : Int → PH → Prop} {X : Nat → PH → Prop} {n : Int} (M : Mt b h0 h D s t) (hvn : InR n) (h17 : 0 ≤ D 0 17 ∧ D 0 17 ≤ 700) (hB : BY D) (g1 : NB (D 11)) (g2 : NB (D 12)) (hk : RIk D) (hw1 : InR (s (-1))) (hw2 : InR (s (-2))) (hW0 : WRD h0) (hb : 35 ≤ b) (H : ∀ (x : Int) h' D' s' T, (¬ (0 ≤ n ∧ n ≤ D 0 17) → T = 1 ∧ D' = D ∧ s' = s) → (0 ≤ n ∧ n ≤ D 0 17 → rdD (dst D 0 17 0) n 0 25 ≠ 0 → T = 2 ∧ D' = ldE D n ∧ s' = s) → (0 ≤ n ∧ n ≤ D 0 17 → rdD (dst D 0 17 0) n 0 25 = 0 → T = 0 ∧ x = ldO D n 0 4 ∧ D' = ldO D n ∧ s' = bcS (dst (ldE D n) 0 1 1) s) → Mt b h0 h' D' s' T → Q x h') : RUN GQ (d + 13) m_X7_load [pA b, pI n] h Q X := by
  rw [e_X7_load]
  refine WP.of (RUN.mono GQ _) (cuts := []) (n := 400) (v_X7_load_0 _ _ _ _ _ ?_)
  refine M.p0 (fun h2 M2 => ?_)
  refine ⟨M2.k0, ?_⟩
  try rw [M2.f17]
  refine S_X7_inB (by omega) (by omega) (by omega) (fun x12 e12 => ?_)
  refine ⟨ir (by omega) (by omega), fun c15 => ?_, fun c15 => ?_⟩
  · refine ⟨M2.k0, ?_⟩
    refine S_X7_refuse M2 (by omega) (by omega) (by omega) (fun x24 h24 t24 e24 M24 => ?_)
    refine ⟨ir (by omega) (by omega), fun c27 => ?_, fun c27 => ?_⟩
    · refine M24.p17 (fun h34 M34 => ?_)
      refine ⟨M34.k0, ?_⟩
      refine S_X7_reads M34 (by omega) (by exact hB.of (dst_row (by decide))) (by rw [dst_row (by decide)]; exact g1) (by rw [dst_row (by decide)]; exact g2) (by exact hk.of (dst_row (by decide))) (by exact hW0) (by exact hb) (fun x39 h39 e39 M39 => ?_)
      subst e39
      obtain ⟨R, hR⟩ : ∃ Z, Z = rdD (dst D 0 17 0) n := ⟨_, rfl⟩
      have MR := M39.castD (D' := R) hR
      have RA := rdD_all (D := dst D 0 17 0) (n := n) (by omega) (hB.of (dst_row (by decide))) (by rw [dst_row (by decide)]; exact g1) (by rw [dst_row (by decide)]; exact g2) (hk.of (dst_row (by decide)))
      rw [← hR] at RA
      have R25 := RA.1.w
      refine ⟨MR.k0, ?_⟩
      try rw [MR.f25]
      refine MR.p18 (fun h47 M47 => ?_)
      refine ⟨M47.k0, ?_⟩
      try rw [M47.f25]
      rw [dst_ne (by decide)]
      refine ⟨ir (by omega) (by omega), fun c55 => ?_, fun c55 => ?_⟩
      · try rw [dst_ne (by decide)]
        refine M47.p19 (fun h66 M66 => ?_)
        obtain ⟨E, hE⟩ : ∃ Z, Z = ldE D n := ⟨_, rfl⟩
        have ME := M66.castD (D' := E) (by rw [hE]; unfold ldE; rw [← hR]; first | (rw [if_pos (by omega)]; done) | (rw [if_neg (by omega)]; done))
        have E25 : E 0 25 = R 0 25 := by rw [hE]; unfold ldE; rw [← hR, dst_ne (by decide), dst_ne (by decide)]
        refine ⟨ME.k0, ?_⟩
        try rw [ME.f25]
        rw [E25]
        refine ⟨ir (by omega) (by omega), fun c74 => ?_, fun c74 => ?_⟩
        · refine ⟨ME.k0, ?_⟩
          refine S_X7_refuse ME (by omega) (by omega) (by omega) (fun x83 h83 t83 e83 M83 => ?_)
          refine ⟨ir (by omega) (by omega), fun c86 => ?_, fun c86 => ?_⟩
          · have c0 : R 0 25 = 0 := by omega
            have IE : RI (dst E 0 1 1) := by rw [hE]; unfold ldE; rw [← hR]; exact ((RA.2.1.f (by decide)).f (by decide)).f (by decide)
            have SE : RS (dst E 0 1 1) := by rw [hE]; unfold ldE; rw [← hR]; exact (RA.2.2 c0).1
            refine M83.p1 (by omega) (fun h93 M93 => ?_)
            refine ⟨M93.k0, ?_⟩
            refine S_X7_becomes M93 (by exact BOK_of s IE SE hw1 hw2) (fun x97 h97 e97 M97 => ?_)
            subst e97
            refine M97.p14 (fun h102 M102 => ?_)
            refine ⟨M102.k0, ?_⟩
            try rw [M102.r15]
            refine M102.as9 (by omega) (by omega) (by omega) (fun h111 M111 => ?_)
            refine ⟨M111.k0, ?_⟩
            try rw [M111.r15]
            refine M111.as9 (by omega) (by omega) (by omega) (fun h118 M118 => ?_)
            refine ⟨M118.k0, ?_⟩
            try rw [M118.f4]
            subst hE
            exact H _ _ (ldO D n) _ 0 (fun z => absurd (by omega) z) (fun _ z => absurd (by rw [← hR]; exact c0) z) (fun _ _ => ⟨rfl, rfl, rfl, rfl⟩) (M118.castT (by omega))
          · exact H _ _ (ldE D n) s 2 (fun z => absurd (by omega) z) (fun _ _ => ⟨rfl, rfl, rfl⟩) (fun _ z => absurd z (by rw [← hR]; omega)) ((M83.castD hE.symm).castT (by omega))
        · refine ⟨ME.k0, ?_⟩
          refine S_X7_refuse ME (by omega) (by omega) (by omega) (fun x83 h83 t83 e83 M83 => ?_)
          refine ⟨ir (by omega) (by omega), fun c86 => ?_, fun c86 => ?_⟩
          · have c0 : R 0 25 = 0 := by omega
            have IE : RI (dst E 0 1 1) := by rw [hE]; unfold ldE; rw [← hR]; exact ((RA.2.1.f (by decide)).f (by decide)).f (by decide)
            have SE : RS (dst E 0 1 1) := by rw [hE]; unfold ldE; rw [← hR]; exact (RA.2.2 c0).1
            refine M83.p1 (by omega) (fun h93 M93 => ?_)
            refine ⟨M93.k0, ?_⟩
            refine S_X7_becomes M93 (by exact BOK_of s IE SE hw1 hw2) (fun x97 h97 e97 M97 => ?_)
            subst e97
            refine M97.p14 (fun h102 M102 => ?_)
            refine ⟨M102.k0, ?_⟩
            try rw [M102.r15]
            refine M102.as9 (by omega) (by omega) (by omega) (fun h111 M111 => ?_)
            refine ⟨M111.k0, ?_⟩
            try rw [M111.r15]
            refine M111.as9 (by omega) (by omega) (by omega) (fun h118 M118 => ?_)
            refine ⟨M118.k0, ?_⟩
            try rw [M118.f4]
            subst hE
            exact H _ _ (ldO D n) _ 0 (fun z => absurd (by omega) z) (fun _ z => absurd (by rw [← hR]; exact c0) z) (fun _ _ => ⟨rfl, rfl, rfl, rfl⟩) (M118.castT (by omega))
          · exact H _ _ (ldE D n) s 2 (fun z => absurd (by omega) z) (fun _ _ => ⟨rfl, rfl, rfl⟩) (fun _ z => absurd z (by rw [← hR]; omega)) ((M83.castD hE.symm).castT (by omega))
      · refine ⟨M47.k0, ?_⟩
        try rw [M47.f26]
        try rw [dst_ne (by decide)]
        refine M47.p19 (fun h66 M66 => ?_)
        obtain ⟨E, hE⟩ : ∃ Z, Z = ldE D n := ⟨_, rfl⟩
        have ME := M66.castD (D' := E) (by rw [hE]; unfold ldE; rw [← hR]; first | (rw [if_pos (by omega)]; done) | (rw [if_neg (by omega)]; done))
        have E25 : E 0 25 = R 0 25 := by rw [hE]; unfold ldE; rw [← hR, dst_ne (by decide), dst_ne (by decide)]
        refine ⟨ME.k0, ?_⟩
        try rw [ME.f25]
        rw [E25]
        refine ⟨ir (by omega) (by omega), fun c74 => ?_, fun c74 => ?_⟩
        · refine ⟨ME.k0, ?_⟩
          refine S_X7_refuse ME (by omega) (by omega) (by omega) (fun x83 h83 t83 e83 M83 => ?_)
          refine ⟨ir (by omega) (by omega), fun c86 => ?_, fun c86 => ?_⟩
          · have c0 : R 0 25 = 0 := by omega
            have IE : RI (dst E 0 1 1) := by rw [hE]; unfold ldE; rw [← hR]; exact ((RA.2.1.f (by decide)).f (by decide)).f (by decide)
            have SE : RS (dst E 0 1 1) := by rw [hE]; unfold ldE; rw [← hR]; exact (RA.2.2 c0).1
            refine M83.p1 (by omega) (fun h93 M93 => ?_)
            refine ⟨M93.k0, ?_⟩
            refine S_X7_becomes M93 (by exact BOK_of s IE SE hw1 hw2) (fun x97 h97 e97 M97 => ?_)
            subst e97
            refine M97.p14 (fun h102 M102 => ?_)
            refine ⟨M102.k0, ?_⟩
            try rw [M102.r15]
            refine M102.as9 (by omega) (by omega) (by omega) (fun h111 M111 => ?_)
            refine ⟨M111.k0, ?_⟩
            try rw [M111.r15]
            refine M111.as9 (by omega) (by omega) (by omega) (fun h118 M118 => ?_)
            refine ⟨M118.k0, ?_⟩
            try rw [M118.f4]
            subst hE
            exact H _ _ (ldO D n) _ 0 (fun z => absurd (by omega) z) (fun _ z => absurd (by rw [← hR]; exact c0) z) (fun _ _ => ⟨rfl, rfl, rfl, rfl⟩) (M118.castT (by omega))
          · exact H _ _ (ldE D n) s 2 (fun z => absurd (by omega) z) (fun _ _ => ⟨rfl, rfl, rfl⟩) (fun _ z => absurd z (by rw [← hR]; omega)) ((M83.castD hE.symm).castT (by omega))
        · refine ⟨ME.k0, ?_⟩
          refine S_X7_refuse ME (by omega) (by omega) (by omega) (fun x83 h83 t83 e83 M83 => ?_)
          refine ⟨ir (by omega) (by omega), fun c86 => ?_, fun c86 => ?_⟩
          · have c0 : R 0 25 = 0 := by omega
            have IE : RI (dst E 0 1 1) := by rw [hE]; unfold ldE; rw [← hR]; exact ((RA.2.1.f (by decide)).f (by decide)).f (by decide)
            have SE : RS (dst E 0 1 1) := by rw [hE]; unfold ldE; rw [← hR]; exact (RA.2.2 c0).1
            refine M83.p1 (by omega) (fun h93 M93 => ?_)
            refine ⟨M93.k0, ?_⟩
            refine S_X7_becomes M93 (by exact BOK_of s IE SE hw1 hw2) (fun x97 h97 e97 M97 => ?_)
            subst e97
            refine M97.p14 (fun h102 M102 => ?_)
            refine ⟨M102.k0, ?_⟩
            try rw [M102.r15]
            refine M102.as9 (by omega) (by omega) (by omega) (fun h111 M111 => ?_)
            refine ⟨M111.k0, ?_⟩
            try rw [M111.r15]
            refine M111.as9 (by omega) (by omega) (by omega) (fun h118 M118 => ?_)
            refine ⟨M118.k0, ?_⟩
            try rw [M118.f4]
            subst hE
            exact H _ _ (ldO D n) _ 0 (fun z => absurd (by omega) z) (fun _ z => absurd (by rw [← hR]; exact c0) z) (fun _ _ => ⟨rfl, rfl, rfl, rfl⟩) (M118.castT (by omega))
          · exact H _ _ (ldE D n) s 2 (fun z => absurd (by omega) z) (fun _ _ => ⟨rfl, rfl, rfl⟩) (fun _ z => absurd z (by rw [← hR]; omega)) ((M83.castD hE.symm).castT (by omega))
    · exact H _ _ D s 1 (fun _ => ⟨rfl, rfl, rfl⟩) (fun z => absurd z (by omega)) (fun z => absurd z (by omega)) (M24.castT (by omega))
  · refine ⟨M2.k0, ?_⟩
    refine S_X7_refuse M2 (by omega) (by omega) (by omega) (fun x24 h24 t24 e24 M24 => ?_)
    refine ⟨ir (by omega) (by omega), fun c27 => ?_, fun c27 => ?_⟩
    · refine M24.p17 (fun h34 M34 => ?_)
      refine ⟨M34.k0, ?_⟩
      refine S_X7_reads M34 (by omega) (by exact hB.of (dst_row (by decide))) (by rw [dst_row (by decide)]; exact g1) (by rw [dst_row (by decide)]; exact g2) (by exact hk.of (dst_row (by decide))) (by exact hW0) (by exact hb) (fun x39 h39 e39 M39 => ?_)
      subst e39
      obtain ⟨R, hR⟩ : ∃ Z, Z = rdD (dst D 0 17 0) n := ⟨_, rfl⟩
      have MR := M39.castD (D' := R) hR
      have RA := rdD_all (D := dst D 0 17 0) (n := n) (by omega) (hB.of (dst_row (by decide))) (by rw [dst_row (by decide)]; exact g1) (by rw [dst_row (by decide)]; exact g2) (hk.of (dst_row (by decide)))
      rw [← hR] at RA
      have R25 := RA.1.w
      refine ⟨MR.k0, ?_⟩
      try rw [MR.f25]
      refine MR.p18 (fun h47 M47 => ?_)
      refine ⟨M47.k0, ?_⟩
      try rw [M47.f25]
      rw [dst_ne (by decide)]
      refine ⟨ir (by omega) (by omega), fun c55 => ?_, fun c55 => ?_⟩
      · try rw [dst_ne (by decide)]
        refine M47.p19 (fun h66 M66 => ?_)
        obtain ⟨E, hE⟩ : ∃ Z, Z = ldE D n := ⟨_, rfl⟩
        have ME := M66.castD (D' := E) (by rw [hE]; unfold ldE; rw [← hR]; first | (rw [if_pos (by omega)]; done) | (rw [if_neg (by omega)]; done))
        have E25 : E 0 25 = R 0 25 := by rw [hE]; unfold ldE; rw [← hR, dst_ne (by decide), dst_ne (by decide)]
        refine ⟨ME.k0, ?_⟩
        try rw [ME.f25]
        rw [E25]
        refine ⟨ir (by omega) (by omega), fun c74 => ?_, fun c74 => ?_⟩
        · refine ⟨ME.k0, ?_⟩
          refine S_X7_refuse ME (by omega) (by omega) (by omega) (fun x83 h83 t83 e83 M83 => ?_)
          refine ⟨ir (by omega) (by omega), fun c86 => ?_, fun c86 => ?_⟩
          · have c0 : R 0 25 = 0 := by omega
            have IE : RI (dst E 0 1 1) := by rw [hE]; unfold ldE; rw [← hR]; exact ((RA.2.1.f (by decide)).f (by decide)).f (by decide)
            have SE : RS (dst E 0 1 1) := by rw [hE]; unfold ldE; rw [← hR]; exact (RA.2.2 c0).1
            refine M83.p1 (by omega) (fun h93 M93 => ?_)
            refine ⟨M93.k0, ?_⟩
            refine S_X7_becomes M93 (by exact BOK_of s IE SE hw1 hw2) (fun x97 h97 e97 M97 => ?_)
            subst e97
            refine M97.p14 (fun h102 M102 => ?_)
            refine ⟨M102.k0, ?_⟩
            try rw [M102.r15]
            refine M102.as9 (by omega) (by omega) (by omega) (fun h111 M111 => ?_)
            refine ⟨M111.k0, ?_⟩
            try rw [M111.r15]
            refine M111.as9 (by omega) (by omega) (by omega) (fun h118 M118 => ?_)
            refine ⟨M118.k0, ?_⟩
            try rw [M118.f4]
            subst hE
            exact H _ _ (ldO D n) _ 0 (fun z => absurd (by omega) z) (fun _ z => absurd (by rw [← hR]; exact c0) z) (fun _ _ => ⟨rfl, rfl, rfl, rfl⟩) (M118.castT (by omega))
          · exact H _ _ (ldE D n) s 2 (fun z => absurd (by omega) z) (fun _ _ => ⟨rfl, rfl, rfl⟩) (fun _ z => absurd z (by rw [← hR]; omega)) ((M83.castD hE.symm).castT (by omega))
        · refine ⟨ME.k0, ?_⟩
          refine S_X7_refuse ME (by omega) (by omega) (by omega) (fun x83 h83 t83 e83 M83 => ?_)
          refine ⟨ir (by omega) (by omega), fun c86 => ?_, fun c86 => ?_⟩
          · have c0 : R 0 25 = 0 := by omega
            have IE : RI (dst E 0 1 1) := by rw [hE]; unfold ldE; rw [← hR]; exact ((RA.2.1.f (by decide)).f (by decide)).f (by decide)
            have SE : RS (dst E 0 1 1) := by rw [hE]; unfold ldE; rw [← hR]; exact (RA.2.2 c0).1
            refine M83.p1 (by omega) (fun h93 M93 => ?_)
            refine ⟨M93.k0, ?_⟩
            refine S_X7_becomes M93 (by exact BOK_of s IE SE hw1 hw2) (fun x97 h97 e97 M97 => ?_)
            subst e97
            refine M97.p14 (fun h102 M102 => ?_)
            refine ⟨M102.k0, ?_⟩
            try rw [M102.r15]
            refine M102.as9 (by omega) (by omega) (by omega) (fun h111 M111 => ?_)
            refine ⟨M111.k0, ?_⟩
            try rw [M111.r15]
            refine M111.as9 (by omega) (by omega) (by omega) (fun h118 M118 => ?_)
            refine ⟨M118.k0, ?_⟩
            try rw [M118.f4]
            subst hE
            exact H _ _ (ldO D n) _ 0 (fun z => absurd (by omega) z) (fun _ z => absurd (by rw [← hR]; exact c0) z) (fun _ _ => ⟨rfl, rfl, rfl, rfl⟩) (M118.castT (by omega))
          · exact H _ _ (ldE D n) s 2 (fun z => absurd (by omega) z) (fun _ _ => ⟨rfl, rfl, rfl⟩) (fun _ z => absurd z (by rw [← hR]; omega)) ((M83.castD hE.symm).castT (by omega))
      · refine ⟨M47.k0, ?_⟩
        try rw [M47.f26]
        try rw [dst_ne (by decide)]
        refine M47.p19 (fun h66 M66 => ?_)
        obtain ⟨E, hE⟩ : ∃ Z, Z = ldE D n := ⟨_, rfl⟩
        have ME := M66.castD (D' := E) (by rw [hE]; unfold ldE; rw [← hR]; first | (rw [if_pos (by omega)]; done) | (rw [if_neg (by omega)]; done))
        have E25 : E 0 25 = R 0 25 := by rw [hE]; unfold ldE; rw [← hR, dst_ne (by decide), dst_ne (by decide)]
        refine ⟨ME.k0, ?_⟩
        try rw [ME.f25]
        rw [E25]
        refine ⟨ir (by omega) (by omega), fun c74 => ?_, fun c74 => ?_⟩
        · refine ⟨ME.k0, ?_⟩
          refine S_X7_refuse ME (by omega) (by omega) (by omega) (fun x83 h83 t83 e83 M83 => ?_)
          refine ⟨ir (by omega) (by omega), fun c86 => ?_, fun c86 => ?_⟩
          · have c0 : R 0 25 = 0 := by omega
            have IE : RI (dst E 0 1 1) := by rw [hE]; unfold ldE; rw [← hR]; exact ((RA.2.1.f (by decide)).f (by decide)).f (by decide)
            have SE : RS (dst E 0 1 1) := by rw [hE]; unfold ldE; rw [← hR]; exact (RA.2.2 c0).1
            refine M83.p1 (by omega) (fun h93 M93 => ?_)
            refine ⟨M93.k0, ?_⟩
            refine S_X7_becomes M93 (by exact BOK_of s IE SE hw1 hw2) (fun x97 h97 e97 M97 => ?_)
            subst e97
            refine M97.p14 (fun h102 M102 => ?_)
            refine ⟨M102.k0, ?_⟩
            try rw [M102.r15]
            refine M102.as9 (by omega) (by omega) (by omega) (fun h111 M111 => ?_)
            refine ⟨M111.k0, ?_⟩
            try rw [M111.r15]
            refine M111.as9 (by omega) (by omega) (by omega) (fun h118 M118 => ?_)
            refine ⟨M118.k0, ?_⟩
            try rw [M118.f4]
            subst hE
            exact H _ _ (ldO D n) _ 0 (fun z => absurd (by omega) z) (fun _ z => absurd (by rw [← hR]; exact c0) z) (fun _ _ => ⟨rfl, rfl, rfl, rfl⟩) (M118.castT (by omega))
          · exact H _ _ (ldE D n) s 2 (fun z => absurd (by omega) z) (fun _ _ => ⟨rfl, rfl, rfl⟩) (fun _ z => absurd z (by rw [← hR]; omega)) ((M83.castD hE.symm).castT (by omega))
        · refine ⟨ME.k0, ?_⟩
          refine S_X7_refuse ME (by omega) (by omega) (by omega) (fun x83 h83 t83 e83 M83 => ?_)
          refine ⟨ir (by omega) (by omega), fun c86 => ?_, fun c86 => ?_⟩
          · have c0 : R 0 25 = 0 := by omega
            have IE : RI (dst E 0 1 1) := by rw [hE]; unfold ldE; rw [← hR]; exact ((RA.2.1.f (by decide)).f (by decide)).f (by decide)
            have SE : RS (dst E 0 1 1) := by rw [hE]; unfold ldE; rw [← hR]; exact (RA.2.2 c0).1
            refine M83.p1 (by omega) (fun h93 M93 => ?_)
            refine ⟨M93.k0, ?_⟩
            refine S_X7_becomes M93 (by exact BOK_of s IE SE hw1 hw2) (fun x97 h97 e97 M97 => ?_)
            subst e97
            refine M97.p14 (fun h102 M102 => ?_)
            refine ⟨M102.k0, ?_⟩
            try rw [M102.r15]
            refine M102.as9 (by omega) (by omega) (by omega) (fun h111 M111 => ?_)
            refine ⟨M111.k0, ?_⟩
            try rw [M111.r15]
            refine M111.as9 (by omega) (by omega) (by omega) (fun h118 M118 => ?_)
            refine ⟨M118.k0, ?_⟩
            try rw [M118.f4]
            subst hE
            exact H _ _ (ldO D n) _ 0 (fun z => absurd (by omega) z) (fun _ z => absurd (by rw [← hR]; exact c0) z) (fun _ _ => ⟨rfl, rfl, rfl, rfl⟩) (M118.castT (by omega))
          · exact H _ _ (ldE D n) s 2 (fun z => absurd (by omega) z) (fun _ _ => ⟨rfl, rfl, rfl⟩) (fun _ z => absurd z (by rw [← hR]; omega)) ((M83.castD hE.symm).castT (by omega))
    · exact H _ _ D s 1 (fun _ => ⟨rfl, rfl, rfl⟩) (fun z => absurd z (by omega)) (fun z => absurd z (by omega)) (M24.castT (by omega))
