/-! what is made (written by wip/whole/tools/eng.py) -/
section VCS
variable {call : PC} {mc ms fr : Nat} {Q : Int → PH → Prop} {X : Nat → PH → Prop} {K : PK}
set_option maxRecDepth 100000 in
theorem v_X1_init_0 (a0 : Nat) (i1 : Int) (h : PH) (c s : Nat) (H : a0 ≠ 0 ∧ (0 ≤ (6 : Int) ∧ (6 : Int) ≤ (100000 : Int)) ∧ (c + 1 ≤ mc ∧ s + (Int.toNat (6 : Int)) ≤ ms) ∧ ∀ h1, h1 = hnew h 20 (Int.toNat (6 : Int)) →
 hk h1 a0 = 2 ∧ ∀ h2, h2 = hsr h1 a0 1 (hn h) →
 InR i1 ∧ (0 < i1 →
 InR i1 ∧ InR 13 ∧ (13 < i1 →
 hk h2 a0 = 2 ∧ ∀ h3, h3 = hsi h2 a0 0 13 →
 hk h3 a0 = 2 ∧ (0 ≤ ((6 * (hi h3 a0 0)) * 7) ∧ ((6 * (hi h3 a0 0)) * 7) ≤ (100000 : Int)) ∧ ((c + 1) + 1 ≤ mc ∧ (s + (Int.toNat (6 : Int))) + (Int.toNat (((6 * (hi h3 a0 0)) * 7))) ≤ ms) ∧ ∀ h4, h4 = hnew h3 20 (Int.toNat (((6 * (hi h3 a0 0)) * 7))) →
 hk h4 a0 = 2 ∧ ∀ h5, h5 = hsr h4 a0 2 (hn h3) →
 Q 0 h5) ∧
(i1 ≤ 13 →
 hk h2 a0 = 2 ∧ ∀ h6, h6 = hsi h2 a0 0 i1 →
 hk h6 a0 = 2 ∧ (0 ≤ ((6 * (hi h6 a0 0)) * 7) ∧ ((6 * (hi h6 a0 0)) * 7) ≤ (100000 : Int)) ∧ ((c + 1) + 1 ≤ mc ∧ (s + (Int.toNat (6 : Int))) + (Int.toNat (((6 * (hi h6 a0 0)) * 7))) ≤ ms) ∧ ∀ h7, h7 = hnew h6 20 (Int.toNat (((6 * (hi h6 a0 0)) * 7))) →
 hk h7 a0 = 2 ∧ ∀ h8, h8 = hsr h7 a0 2 (hn h6) →
 Q 0 h8)) ∧
(i1 ≤ 0 →
 hk h2 a0 = 2 ∧ ∀ h9, h9 = hsi h2 a0 0 13 →
 hk h9 a0 = 2 ∧ (0 ≤ ((6 * (hi h9 a0 0)) * 7) ∧ ((6 * (hi h9 a0 0)) * 7) ≤ (100000 : Int)) ∧ ((c + 1) + 1 ≤ mc ∧ (s + (Int.toNat (6 : Int))) + (Int.toNat (((6 * (hi h9 a0 0)) * 7))) ≤ ms) ∧ ∀ h10, h10 = hnew h9 20 (Int.toNat (((6 * (hi h9 a0 0)) * 7))) →
 hk h10 a0 = 2 ∧ ∀ h11, h11 = hsr h10 a0 2 (hn h9) →
 Q 0 h11)) : wpc k_X1_init [] call mc ms fr Q X [] K 400 (pto 0 k_X1_init) [some (pA a0), some (pI i1)] [] h c s :=
  H
set_option maxRecDepth 100000 in
theorem v_X0_init_0 (a0 : Nat) (h : PH) (c s : Nat) (H : a0 ≠ 0 ∧ (0 ≤ (4 : Int) ∧ (4 : Int) ≤ (100000 : Int)) ∧ (c + 1 ≤ mc ∧ s + (Int.toNat (4 : Int)) ≤ ms) ∧ ∀ h1, h1 = hnew h 20 (Int.toNat (4 : Int)) →
 hk h1 a0 = 1 ∧ ∀ h2, h2 = hsr h1 a0 0 (hn h) →
 (0 ≤ (24 : Int) ∧ (24 : Int) ≤ (100000 : Int)) ∧ ((c + 1) + 1 ≤ mc ∧ (s + (Int.toNat (4 : Int))) + (Int.toNat (24 : Int)) ≤ ms) ∧ ∀ h3, h3 = hnew h2 20 (Int.toNat (24 : Int)) →
 hk h3 a0 = 1 ∧ ∀ h4, h4 = hsr h3 a0 1 (hn h2) →
 (0 ≤ (48 : Int) ∧ (48 : Int) ≤ (100000 : Int)) ∧ (((c + 1) + 1) + 1 ≤ mc ∧ ((s + (Int.toNat (4 : Int))) + (Int.toNat (24 : Int))) + (Int.toNat (48 : Int)) ≤ ms) ∧ ∀ h5, h5 = hnew h4 20 (Int.toNat (48 : Int)) →
 hk h5 a0 = 1 ∧ ∀ h6, h6 = hsr h5 a0 2 (hn h4) →
 (0 ≤ (6 : Int) ∧ (6 : Int) ≤ (100000 : Int)) ∧ ((((c + 1) + 1) + 1) + 1 ≤ mc ∧ (((s + (Int.toNat (4 : Int))) + (Int.toNat (24 : Int))) + (Int.toNat (48 : Int))) + (Int.toNat (6 : Int)) ≤ ms) ∧ ∀ h7, h7 = hnew h6 20 (Int.toNat (6 : Int)) →
 hk h7 a0 = 1 ∧ ∀ h8, h8 = hsr h7 a0 3 (hn h6) →
 (0 ≤ (24 : Int) ∧ (24 : Int) ≤ (100000 : Int)) ∧ (((((c + 1) + 1) + 1) + 1) + 1 ≤ mc ∧ ((((s + (Int.toNat (4 : Int))) + (Int.toNat (24 : Int))) + (Int.toNat (48 : Int))) + (Int.toNat (6 : Int))) + (Int.toNat (24 : Int)) ≤ ms) ∧ ∀ h9, h9 = hnew h8 20 (Int.toNat (24 : Int)) →
 hk h9 a0 = 1 ∧ ∀ h10, h10 = hsr h9 a0 4 (hn h8) →
 ((((((c + 1) + 1) + 1) + 1) + 1) + 1 ≤ mc ∧ (((((s + (Int.toNat (4 : Int))) + (Int.toNat (24 : Int))) + (Int.toNat (48 : Int))) + (Int.toNat (6 : Int))) + (Int.toNat (24 : Int))) + 3 ≤ ms) ∧ ∀ h11, h11 = hnew h10 2 3 →
 hk h11 (hn h10) = 2 ∧ (((((((c + 1) + 1) + 1) + 1) + 1) + 1) + 2 ≤ mc ∧ ((((((s + (Int.toNat (4 : Int))) + (Int.toNat (24 : Int))) + (Int.toNat (48 : Int))) + (Int.toNat (6 : Int))) + (Int.toNat (24 : Int))) + 3) + 552 ≤ ms) ∧ call m_X1_init [pA (hn h10), pI 13] h11 (fun _ h12 =>
 hk h12 a0 = 1 ∧ ∀ h13, h13 = hsr h12 a0 5 (hn h10) →
 ((((((((c + 1) + 1) + 1) + 1) + 1) + 1) + 2) + 1 ≤ mc ∧ (((((((s + (Int.toNat (4 : Int))) + (Int.toNat (24 : Int))) + (Int.toNat (48 : Int))) + (Int.toNat (6 : Int))) + (Int.toNat (24 : Int))) + 3) + 552) + 3 ≤ ms) ∧ ∀ h14, h14 = hnew h13 2 3 →
 hk h14 (hn h13) = 2 ∧ (((((((((c + 1) + 1) + 1) + 1) + 1) + 1) + 2) + 1) + 2 ≤ mc ∧ ((((((((s + (Int.toNat (4 : Int))) + (Int.toNat (24 : Int))) + (Int.toNat (48 : Int))) + (Int.toNat (6 : Int))) + (Int.toNat (24 : Int))) + 3) + 552) + 3) + 552 ≤ ms) ∧ call m_X1_init [pA (hn h13), pI 4] h14 (fun _ h15 =>
 hk h15 a0 = 1 ∧ ∀ h16, h16 = hsr h15 a0 6 (hn h13) →
 (0 ≤ (6 : Int) ∧ (6 : Int) ≤ (100000 : Int)) ∧ ((((((((((c + 1) + 1) + 1) + 1) + 1) + 1) + 2) + 1) + 2) + 1 ≤ mc ∧ (((((((((s + (Int.toNat (4 : Int))) + (Int.toNat (24 : Int))) + (Int.toNat (48 : Int))) + (Int.toNat (6 : Int))) + (Int.toNat (24 : Int))) + 3) + 552) + 3) + 552) + (Int.toNat (6 : Int)) ≤ ms) ∧ ∀ h17, h17 = hnew h16 20 (Int.toNat (6 : Int)) →
 hk h17 a0 = 1 ∧ ∀ h18, h18 = hsr h17 a0 7 (hn h16) →
 (0 ≤ (200 : Int) ∧ (200 : Int) ≤ (100000 : Int)) ∧ (((((((((((c + 1) + 1) + 1) + 1) + 1) + 1) + 2) + 1) + 2) + 1) + 1 ≤ mc ∧ ((((((((((s + (Int.toNat (4 : Int))) + (Int.toNat (24 : Int))) + (Int.toNat (48 : Int))) + (Int.toNat (6 : Int))) + (Int.toNat (24 : Int))) + 3) + 552) + 3) + 552) + (Int.toNat (6 : Int))) + (Int.toNat (200 : Int)) ≤ ms) ∧ ∀ h19, h19 = hnew h18 20 (Int.toNat (200 : Int)) →
 hk h19 a0 = 1 ∧ ∀ h20, h20 = hsr h19 a0 8 (hn h18) →
 hk h20 a0 = 1 ∧ ∀ h21, h21 = hsi h20 a0 13 ((-1)) →
 hk h21 a0 = 1 ∧ ∀ h22, h22 = hsi h21 a0 14 ((-1)) →
 Q 0 h22) X) X) : wpc k_X0_init [] call mc ms fr Q X [] K 400 (pto 0 k_X0_init) [some (pA a0)] [] h c s :=
  H
end VCS
theorem S_X1_init_6 {d a : Nat} {h0 h : PH} {E : Nat → Int → Int} {V : Nat → Nat → Nat} {Q : Int → PH → Prop} {X : Nat → PH → Prop} (A : AL h0 h a 7 kH lH E V) (he : ∀ j, 6 < j → E j = fun _ => 0) (hv : ∀ j, 6 < j → V j = fun _ => 0)  (H : ∀ (x : Int) h', x = 0 → AL h0 h' a 9 kH lH (dst E 6 0 13) (vst (vst V 6 1 (a + 7)) 6 2 (a + 8)) → Q x h') : RUN GQ (d + 1) m_X1_init [pA (a + 6), pI 13] h Q X := by
  rw [e_X1_init]
  refine WP.of (RUN.mono GQ _) (cuts := []) (n := 400) (v_X1_init_0 _ _ _ _ _ ?_)
  refine ⟨(by omega), ?_⟩
  refine ⟨⟨by omega, by omega⟩, ⟨by omega, by omega⟩, ?_⟩
  rw [A.n]
  refine A.new 20 _ rfl rfl (fun e => by (try rw [dst_row (by decide)]); rw [he _ (by decide)]) (fun f => by first | rw [hv _ (by decide)] | (unfold vst; rw [if_neg (by omega), hv _ (by decide)])) (fun h7 A7 => ?_)
  refine A7.pr 6 1 _ _ (by decide) rfl (fun h9 A9 => ?_)
  refine ⟨ir (by omega) (by omega), fun c14 => ?_, fun c14 => ?_⟩
  · refine ⟨ir (by omega) (by omega), ir (by omega) (by omega), fun c20 => ?_, fun c20 => ?_⟩
    · exfalso; omega
    · refine A9.pi 6 0 _ (by decide) rfl (fun h29 A29 => ?_)
      refine ⟨A29.k (j := 6) (by decide), ?_⟩
      rw [A29.i (j := 6) (by decide)]
      rw [dst_eq]
      refine ⟨⟨by omega, by omega⟩, ⟨by omega, by omega⟩, ?_⟩
      rw [A29.n]
      refine A29.new 20 _ rfl rfl (fun e => by (try rw [dst_row (by decide)]); rw [he _ (by decide)]) (fun f => by first | rw [hv _ (by decide)] | (unfold vst; rw [if_neg (by omega), hv _ (by decide)])) (fun h43 A43 => ?_)
      refine A43.pr 6 2 _ _ (by decide) rfl (fun h45 A45 => ?_)
      exact H _ _ rfl A45
  · exfalso; omega
theorem S_X1_init_9 {d a : Nat} {h0 h : PH} {E : Nat → Int → Int} {V : Nat → Nat → Nat} {Q : Int → PH → Prop} {X : Nat → PH → Prop} (A : AL h0 h a 10 kH lH E V) (he : ∀ j, 9 < j → E j = fun _ => 0) (hv : ∀ j, 9 < j → V j = fun _ => 0)  (H : ∀ (x : Int) h', x = 0 → AL h0 h' a 12 kH lH (dst E 9 0 4) (vst (vst V 9 1 (a + 10)) 9 2 (a + 11)) → Q x h') : RUN GQ (d + 1) m_X1_init [pA (a + 9), pI 4] h Q X := by
  rw [e_X1_init]
  refine WP.of (RUN.mono GQ _) (cuts := []) (n := 400) (v_X1_init_0 _ _ _ _ _ ?_)
  refine ⟨(by omega), ?_⟩
  refine ⟨⟨by omega, by omega⟩, ⟨by omega, by omega⟩, ?_⟩
  rw [A.n]
  refine A.new 20 _ rfl rfl (fun e => by (try rw [dst_row (by decide)]); rw [he _ (by decide)]) (fun f => by first | rw [hv _ (by decide)] | (unfold vst; rw [if_neg (by omega), hv _ (by decide)])) (fun h7 A7 => ?_)
  refine A7.pr 9 1 _ _ (by decide) rfl (fun h9 A9 => ?_)
  refine ⟨ir (by omega) (by omega), fun c14 => ?_, fun c14 => ?_⟩
  · refine ⟨ir (by omega) (by omega), ir (by omega) (by omega), fun c20 => ?_, fun c20 => ?_⟩
    · exfalso; omega
    · refine A9.pi 9 0 _ (by decide) rfl (fun h29 A29 => ?_)
      refine ⟨A29.k (j := 9) (by decide), ?_⟩
      rw [A29.i (j := 9) (by decide)]
      rw [dst_eq]
      refine ⟨⟨by omega, by omega⟩, ⟨by omega, by omega⟩, ?_⟩
      rw [A29.n]
      refine A29.new 20 _ rfl rfl (fun e => by (try rw [dst_row (by decide)]); rw [he _ (by decide)]) (fun f => by first | rw [hv _ (by decide)] | (unfold vst; rw [if_neg (by omega), hv _ (by decide)])) (fun h43 A43 => ?_)
      refine A43.pr 9 2 _ _ (by decide) rfl (fun h45 A45 => ?_)
      exact H _ _ rfl A45
  · exfalso; omega
theorem S_X0_init {d a : Nat} {h0 h : PH} {Q : Int → PH → Prop} {X : Nat → PH → Prop} (A : AL h0 h a 1 kH lH (fun _ _ => 0) (fun _ _ => 0)) (ha : a ≠ 0) (H : ∀ (x : Int) h' E', x = 0 → hn h' = a + 14 → (∀ r, r < a → SC h0 h' r) → Hx a h' h' E' → E' 6 0 = 13 → E' 9 0 = 4 → Q x h') : RUN GQ (d + 2) m_X0_init [pA a] h Q X := by
  rw [e_X0_init]
  refine WP.of (RUN.mono GQ _) (cuts := []) (n := 400) (v_X0_init_0 _ _ _ _ ?_)
  refine ⟨(by omega), ?_⟩
  refine ⟨⟨by omega, by omega⟩, ⟨by omega, by omega⟩, ?_⟩
  rw [A.n]
  refine A.new 20 _ rfl rfl (fun _ => rfl) (fun _ => rfl) (fun h6 A6 => ?_)
  refine A6.pr 0 0 _ _ (by decide) rfl (fun h8 A8 => ?_)
  refine ⟨⟨by omega, by omega⟩, ⟨by omega, by omega⟩, ?_⟩
  rw [A8.n]
  refine A8.new 20 _ rfl rfl (fun _ => rfl) (fun _ => rfl) (fun h14 A14 => ?_)
  refine A14.pr 0 1 _ _ (by decide) rfl (fun h16 A16 => ?_)
  refine ⟨⟨by omega, by omega⟩, ⟨by omega, by omega⟩, ?_⟩
  rw [A16.n]
  refine A16.new 20 _ rfl rfl (fun _ => rfl) (fun _ => rfl) (fun h22 A22 => ?_)
  refine A22.pr 0 2 _ _ (by decide) rfl (fun h24 A24 => ?_)
  refine ⟨⟨by omega, by omega⟩, ⟨by omega, by omega⟩, ?_⟩
  rw [A24.n]
  refine A24.new 20 _ rfl rfl (fun _ => rfl) (fun _ => rfl) (fun h30 A30 => ?_)
  refine A30.pr 0 3 _ _ (by decide) rfl (fun h32 A32 => ?_)
  refine ⟨⟨by omega, by omega⟩, ⟨by omega, by omega⟩, ?_⟩
  rw [A32.n]
  refine A32.new 20 _ rfl rfl (fun _ => rfl) (fun _ => rfl) (fun h38 A38 => ?_)
  refine A38.pr 0 4 _ _ (by decide) rfl (fun h40 A40 => ?_)
  refine ⟨⟨by omega, by omega⟩, ?_⟩
  rw [A40.n]
  refine A40.new 2 3 rfl rfl (fun _ => rfl) (fun _ => rfl) (fun h44 A44 => ?_)
  refine ⟨(A44.k (j := 6) (by decide)), ?_⟩
  refine ⟨⟨by omega, by omega⟩, ?_⟩
  refine S_X1_init_6 A44 (fun _ _ => rfl) (fun j h => by funext f; unfold vst; (repeat rw [if_neg (by omega)])) (fun x50 h50 e50 A50 => ?_)
  subst e50
  refine A50.pr 0 5 _ _ (by decide) rfl (fun h53 A53 => ?_)
  refine ⟨⟨by omega, by omega⟩, ?_⟩
  rw [A53.n]
  refine A53.new 2 3 rfl rfl (fun _ => rfl) (fun _ => rfl) (fun h57 A57 => ?_)
  refine ⟨(A57.k (j := 9) (by decide)), ?_⟩
  refine ⟨⟨by omega, by omega⟩, ?_⟩
  refine S_X1_init_9 A57 (fun j h => dst_row (by omega)) (fun j h => by funext f; unfold vst; (repeat rw [if_neg (by omega)])) (fun x62 h62 e62 A62 => ?_)
  subst e62
  refine A62.pr 0 6 _ _ (by decide) rfl (fun h65 A65 => ?_)
  refine ⟨⟨by omega, by omega⟩, ⟨by omega, by omega⟩, ?_⟩
  rw [A65.n]
  refine A65.new 20 _ rfl rfl (fun _ => rfl) (fun _ => rfl) (fun h71 A71 => ?_)
  refine A71.pr 0 7 _ _ (by decide) rfl (fun h73 A73 => ?_)
  refine ⟨⟨by omega, by omega⟩, ⟨by omega, by omega⟩, ?_⟩
  rw [A73.n]
  refine A73.new 20 _ rfl rfl (fun _ => rfl) (fun _ => rfl) (fun h80 A80 => ?_)
  refine A80.pr 0 8 _ _ (by decide) rfl (fun h82 A82 => ?_)
  refine A82.pi 0 13 _ (by decide) rfl (fun h87 A87 => ?_)
  refine A87.pi 0 14 _ (by decide) rfl (fun h92 A92 => ?_)
  exact H _ _ _ rfl A92.n A92.2.1 (A92.bx ha (by intro q hq; simp only [rH, List.mem_cons, List.not_mem_nil, or_false] at hq; rcases hq with rfl | rfl | rfl | rfl | rfl | rfl | rfl | rfl | rfl | rfl | rfl | rfl | rfl <;> exact ⟨by decide, rfl⟩)) rfl rfl
