/-! the law's other calls of the class -/
section LMV
variable {call : PC} {mc ms fr : Nat} {Q : Int → PH → Prop} {X : Nat → PH → Prop} {K : PK}
set_option maxRecDepth 100000 in
theorem v_L_load_0 (a0 : Nat) (i1 : Int) (a2 : Nat) (z3 : Option PV) (h : PH) (c s : Nat) (H : hk h a0 = 7 ∧ (c + 24 ≤ mc ∧ s + 1700 ≤ ms) ∧ call m_X6_load [pA a0, pI i1] h (fun x1 h1 =>
 InR x1 ∧ hk h1 a2 = 23 ∧ (0 ≤ (0 : Int) ∧ (0 : Int) < (hl h1 a2 : Int)) ∧ ∀ h2, h2 = hsi h1 a2 (Int.toNat (0 : Int)) x1 →
 Q 0 h2) (fun e h1 => (e = 2 →
 Q 1 h1) ∧
(e ≠ 2 →
 (e = 1 →
 Q 2 h1) ∧
(e ≠ 1 →
 X e h1)))) : wpc k_L_load [(0, 9, 2, 13, 3), (0, 9, 1, 16, 3)] call mc ms fr Q X [] K 400 (pto 0 k_L_load) [some (pA a0), some (pI i1), some (pA a2), z3] [] h c s :=
  H

set_option maxRecDepth 100000 in
theorem v_L_find_0 (a0 : Nat) (i1 : Int) (i2 : Int) (a3 : Nat) (z4 : Option PV) (h : PH) (c s : Nat) (H : hk h a0 = 7 ∧ (c + 24 ≤ mc ∧ s + 1700 ≤ ms) ∧ call m_X6_find [pA a0, pI i1, pI i2] h (fun x1 h1 =>
 InR x1 ∧ hk h1 a3 = 23 ∧ (0 ≤ (0 : Int) ∧ (0 : Int) < (hl h1 a3 : Int)) ∧ ∀ h2, h2 = hsi h1 a3 (Int.toNat (0 : Int)) x1 →
 Q 0 h2) (fun e h1 => (e = 0 →
 Q 1 h1) ∧
(e ≠ 0 →
 (e = 2 →
 Q 2 h1) ∧
(e ≠ 2 →
 X e h1)))) : wpc k_L_find [(0, 10, 0, 15, 4), (0, 10, 2, 19, 4)] call mc ms fr Q X [] K 400 (pto 0 k_L_find) [some (pA a0), some (pI i1), some (pI i2), some (pA a3), z4] [] h c s :=
  H

set_option maxRecDepth 100000 in
theorem v_L_undo_0 (a0 : Nat) (a1 : Nat) (z2 : Option PV) (h : PH) (c s : Nat) (H : hk h a0 = 7 ∧ (c + 24 ≤ mc ∧ s + 1700 ≤ ms) ∧ call m_X6_undo [pA a0] h (fun x1 h1 =>
 InR x1 ∧ hk h1 a1 = 23 ∧ (0 ≤ (0 : Int) ∧ (0 : Int) < (hl h1 a1 : Int)) ∧ ∀ h2, h2 = hsi h1 a1 (Int.toNat (0 : Int)) x1 →
 Q 0 h2) (fun e h1 => (e = 0 →
 Q 1 h1) ∧
(e ≠ 0 →
 X e h1))) : wpc k_L_undo [(0, 8, 0, 12, 2)] call mc ms fr Q X [] K 400 (pto 0 k_L_undo) [some (pA a0), some (pA a1), z2] [] h c s :=
  H

set_option maxRecDepth 100000 in
theorem v_L_save_0 (a0 : Nat) (i1 : Int) (a2 : Nat) (z3 : Option PV) (h : PH) (c s : Nat) (H : hk h a0 = 7 ∧ (c + 24 ≤ mc ∧ s + 1700 ≤ ms) ∧ call m_X6_save [pA a0, pI i1] h (fun x1 h1 =>
 InR x1 ∧ hk h1 a2 = 23 ∧ (0 ≤ (0 : Int) ∧ (0 : Int) < (hl h1 a2 : Int)) ∧ ∀ h2, h2 = hsi h1 a2 (Int.toNat (0 : Int)) x1 →
 Q 0 h2) (fun e h1 => (e = 0 →
 Q 1 h1) ∧
(e ≠ 0 →
 (e = 2 →
 Q 2 h1) ∧
(e ≠ 2 →
 X e h1)))) : wpc k_L_save [(0, 9, 0, 13, 3), (0, 9, 2, 16, 3)] call mc ms fr Q X [] K 400 (pto 0 k_L_save) [some (pA a0), some (pI i1), some (pA a2), z3] [] h c s :=
  H

set_option maxRecDepth 100000 in
theorem v_L_restore_0 (a0 : Nat) (i1 : Int) (a2 : Nat) (z3 : Option PV) (h : PH) (c s : Nat) (H : hk h a0 = 7 ∧ (c + 24 ≤ mc ∧ s + 1700 ≤ ms) ∧ call m_X6_restore [pA a0, pI i1] h (fun x1 h1 =>
 InR x1 ∧ hk h1 a2 = 23 ∧ (0 ≤ (0 : Int) ∧ (0 : Int) < (hl h1 a2 : Int)) ∧ ∀ h2, h2 = hsi h1 a2 (Int.toNat (0 : Int)) x1 →
 Q 0 h2) (fun e h1 => (e = 2 →
 Q 1 h1) ∧
(e ≠ 2 →
 (e = 0 →
 Q 2 h1) ∧
(e ≠ 0 →
 X e h1)))) : wpc k_L_restore [(0, 9, 2, 13, 3), (0, 9, 0, 16, 3)] call mc ms fr Q X [] K 400 (pto 0 k_L_restore) [some (pA a0), some (pI i1), some (pA a2), z3] [] h c s :=
  H

end LMV
def tLd (D : Nat → Int → Int) (n : Int) : Int := if 0 ≤ n ∧ n ≤ D 0 17 then (if rdD (dst D 0 17 0) n 0 25 = 0 then 0 else 2) else 1
section LMS
variable {d : Nat} {h : PH} {D : Nat → Int → Int} {s : Int → Int} {N N' : Int} {Q : Int → PH → Prop} {X : Nat → PH → Prop}
theorem ldO_4 {n : Int} (G : CD D s N) (hn : 0 ≤ n ∧ n ≤ D 0 17) : 0 ≤ ldO D n 0 4 ∧ ldO D n 0 4 ≤ 6 := by
  obtain ⟨IE, f, r, _, _, of, oj, _⟩ := ldO_all G hn
  rw [of 4 (by decide) (by decide), (bc_rows (dst (ldE D n) 0 1 1)).1.2.2.1]
  exact IE.1.2.1
theorem L_load {n : Int} (C : CP h D s N) (G : CD D s N) (o : OS h) (hvn : InR n) (hN : N ≤ N') (H : ∀ (kr : Int) h', kr = tLd D n → (tLd D n = 0 → hi h' 139 0 = ldO D n 0 4 ∧ InR (ldO D n 0 4)) → CG h h' → (tLd D n = 0 → CP h' (ldO D n) (bcS (dst (ldE D n) 0 1 1) s) N') → (tLd D n = 1 → CP h' D s N') → (tLd D n = 2 → CP h' (ldE D n) s N') → Q kr h') : RUN GQ (d + 13) m_L_load [pA 64, pI n, pA 139] h Q X := by
  have k7 : hk h 64 = 7 := by
    obtain ⟨B, A, B2, A2, nx, EP, E, C⟩ := C
    exact C.2.1.k
  rw [e_L_load]
  refine WP.of (RUN.mono GQ _) (cuts := []) (n := 400) (v_L_load_0 _ _ _ _ _ _ _ ?_)
  refine ⟨k7, ⟨by decide, by decide⟩, C_load C G hvn hN (fun h9 hn z c p => ?_) (fun h9 hn c p => ?_) (fun h9 hn z c p => ?_)⟩
  · have e : tLd D n = 0 := by unfold tLd; rw [if_pos hn, if_pos z]
    have q := ldO_4 G hn
    have iv : InR (ldO D n 0 4) := ir (by omega) (by omega)
    exact W_out o c iv (fun h2 g2 i2 k2 => H 0 h2 e.symm (fun _ => ⟨i2, iv⟩) g2 (fun _ => k2 _ _ _ p) (fun y => absurd y (by omega)) (fun y => absurd y (by omega)))
  · have e : tLd D n = 1 := by unfold tLd; rw [if_neg hn]
    exact ⟨fun _ => H 1 h9 e.symm (fun y => absurd y (by omega)) c.cg (fun y => absurd y (by omega)) (fun _ => p) (fun y => absurd y (by omega)), fun y => absurd rfl y⟩
  · have e : tLd D n = 2 := by unfold tLd; rw [if_pos hn, if_neg z]
    exact ⟨fun y => absurd y (by decide), fun _ => ⟨fun _ => H 2 h9 e.symm (fun y => absurd y (by omega)) c.cg (fun y => absurd y (by omega)) (fun y => absurd y (by omega)) (fun _ => p), fun y => absurd rfl y⟩⟩
theorem BFX.z (h : PH) (v : Int) : BFX h (hsi h 64 1 v) v := by
  refine ⟨fun r a b => ⟨rfl, fun k => ⟨by rw [hi_hsi, if_neg (by omega)], rfl⟩⟩, rfl, rfl, fun r k => rfl, fun k a => by rw [hi_hsi, if_neg (by omega)], by rw [hi_hsi, if_pos ⟨rfl, rfl⟩]⟩
theorem L_find {z n : Int} (C : CP h D s N) (G : CD D s N) (o : OS h) (hvn : InR n) (hz : z = 0 ∨ z = 1) (hN : N ≤ N') (H : ∀ (kr : Int) h', kr = ck (tL D) n 0 (D 0 17) 2 → (ck (tL D) n 0 (D 0 17) 2 = 0 → hi h' 139 0 = (if z = 0 then nmv (D 2) D 0 n (D 0 4).toNat 0 else nmv (D 1) D 0 n (D 0 3).toNat 0) ∧ InR (if z = 0 then nmv (D 2) D 0 n (D 0 4).toNat 0 else nmv (D 1) D 0 n (D 0 3).toNat 0)) → CG h h' → (ck (tL D) n 0 (D 0 17) 2 = 0 → CP h' (dst D 0 17 0) s N') → (ck (tL D) n 0 (D 0 17) 2 ≠ 0 → CP h' D s N') → Q kr h') : RUN GQ (d + 8) m_L_find [pA 64, pI z, pI n, pA 139] h Q X := by
  obtain ⟨B, A, B2, A2, nx, EP, E, C⟩ := C
  obtain ⟨cpl, cft, ce, csp, cbf, cou, cps, css, crr, ckn, cn1⟩ := id C
  rw [e_L_find]
  refine WP.of (RUN.mono GQ _) (cuts := []) (n := 400) (v_L_find_0 _ _ _ _ _ _ _ _ ?_)
  refine ⟨cft.k, ⟨by decide, by decide⟩, S_X6_find cft G.W cpl.ab cbf G.B G.h17 hvn hz (fun t => ?_) (fun e9 n9' c9 l9 => ?_)⟩
  · have u9 := C.buf (D' := dst D 0 17 0) (BFX.z h 0) ((cbf.sc (h' := hsi h 64 1 0) ⟨rfl, fun k => ⟨by rw [hi_hsi, if_neg (by omega)], rfl⟩⟩).eqD (dst_row (by decide))) (dst_eq _ _ _ _) (fun e a => dst_ne a) (fun j a b => dst_row a) hN
    have w := G.W
    have v3 := w.2.1
    have v4 := w.2.2.1
    have iv : InR (if z = 0 then nmv (D 2) D 0 n (D 0 4).toNat 0 else nmv (D 1) D 0 n (D 0 3).toNat 0) := by
      split
      · have := nmv_rng (D 2) D 0 n (D 0 4).toNat 0 (by omega)
        exact ir (by omega) (by omega)
      · have := nmv_rng (D 1) D 0 n (D 0 3).toNat 0 (by omega)
        exact ir (by omega) (by omega)
    exact W_out o u9.1 iv (fun h2 g2 i2 k2 => H 0 h2 t.symm (fun _ => ⟨i2, iv⟩) g2 (fun _ => k2 _ _ _ u9.2) (fun y => absurd t y))
  · have u9 := C.up (n' := n9') l9 hN
    refine ⟨fun c1 => H 1 _ (by omega) (fun z => absurd z (by omega)) u9.1.cg (fun z => absurd z (by omega)) (fun _ => u9.2), fun c1 => ?_⟩
    refine ⟨fun c1 => H 2 _ (by omega) (fun z => absurd z (by omega)) u9.1.cg (fun z => absurd z (by omega)) (fun _ => u9.2), fun c1 => ?_⟩
    exfalso
    omega
theorem L_undo (C : CP h D s N) (G : CD D s N) (o : OS h) (hN : N ≤ N') (H : ∀ (kr : Int) h', kr = tUn D → (tUn D = 0 → hi h' 139 0 = D 0 14 - 1 ∧ InR (D 0 14 - 1)) → CG h h' → (tUn D = 0 → D 0 14 ≠ 0 ∧ CP h' (dst D 0 14 (D 0 14 - 1)) (scp (861 * (D 0 14 - 1)) (D 8) 861 0 s) N' ∧ HI (D 0 3) (D 0 4) (D 0 2) N (scp (861 * (D 0 14 - 1)) (D 8) 861 0 s) ∧ scp (861 * (D 0 14 - 1)) (D 8) 861 0 s (-1) = -1) → (tUn D ≠ 0 → CP h' D s N') → Q kr h') : RUN GQ (d + 8) m_L_undo [pA 64, pA 139] h Q X := by
  obtain ⟨B, A, B2, A2, nx, EP, E, C⟩ := C
  obtain ⟨cpl, cft, ce, csp, cbf, cou, cps, css, crr, ckn, cn1⟩ := id C
  have g14 := G.c
  have tu := tUn_or2 D
  rw [e_L_undo]
  refine WP.of (RUN.mono GQ _) (cuts := []) (n := 400) (v_L_undo_0 _ _ _ _ _ _ ?_)
  refine ⟨cft.k, ⟨by decide, by decide⟩, S_X6_undo cft cpl.ab cps cn1 crr (fun h8 h9 F9 t us m9 kp => ?_) (fun e9 n9' c9 l9 => ?_)⟩
  · have c : D 0 14 ≠ 0 := by omega
    have u9 := C.undo us m9 kp c G.sw G.s2 hN
    have r := scp_S (o := 861 * (D 0 14 - 1)) kp (by omega) G.sw G.s2
    have iv : InR (D 0 14 - 1) := ir (by omega) (by omega)
    exact W_out o u9.1 iv (fun h2 g2 i2 k2 => H 0 h2 t.symm (fun _ => ⟨i2, iv⟩) g2 (fun _ => ⟨c, k2 _ _ _ u9.2, r.2.1, r.2.2.1⟩) (fun y => absurd t y))
  · have u9 := C.up (n' := n9') l9 hN
    refine ⟨fun c1 => H 1 _ (by omega) (fun z => absurd z (by omega)) u9.1.cg (fun z => absurd z (by omega)) (fun _ => u9.2), fun c1 => ?_⟩
    exfalso
    omega
theorem L_save {j : Int} (C : CP h D s N) (G : CD D s N) (o : OS h) (hvj : InR j) (hN8 : N ≤ 99999999) (hN : N ≤ N') (H : ∀ (kr : Int) h', kr = ck (tL D) j 0 (1) 2 → (ck (tL D) j 0 (1) 2 = 0 → hi h' 139 0 = s 0 ∧ InR (s 0)) → CG h h' → (ck (tL D) j 0 (1) 2 = 0 → CP h' (dst (dcp 8 (861 * (8 + j)) s 861 0 D) 9 j 1) s N') → (ck (tL D) j 0 (1) 2 ≠ 0 → CP h' D s N') → Q kr h') : RUN GQ (d + 8) m_L_save [pA 64, pI j, pA 139] h Q X := by
  obtain ⟨B, A, B2, A2, nx, EP, E, C⟩ := C
  obtain ⟨cpl, cft, ce, csp, cbf, cou, cps, css, crr, ckn, cn1⟩ := id C
  rw [e_L_save]
  refine WP.of (RUN.mono GQ _) (cuts := []) (n := 400) (v_L_save_0 _ _ _ _ _ _ _ ?_)
  refine ⟨cft.k, ⟨by decide, by decide⟩, S_X6_save cft G.W cpl.ab css cn1 crr hvj (fun h9 a9 F9 t sv g9 r9 n9 => ?_) (fun e9 n9' c9 l9 => ?_)⟩
  · have l := tL_n (ck_t t)
    have u9 := C.save G.W l (ck_v t (by decide)) sv g9 r9 n9 hN
    have iv : InR (s 0) := V_cnt G hN8 l (Or.inl ⟨by omega, by omega⟩)
    exact W_out o u9.1 iv (fun h2 g2 i2 k2 => H 0 h2 t.symm (fun _ => ⟨i2, iv⟩) g2 (fun _ => k2 _ _ _ u9.2) (fun y => absurd t y))
  · have u9 := C.up (n' := n9') l9 hN
    refine ⟨fun c1 => H 1 _ (by omega) (fun z => absurd z (by omega)) u9.1.cg (fun z => absurd z (by omega)) (fun _ => u9.2), fun c1 => ?_⟩
    refine ⟨fun c1 => H 2 _ (by omega) (fun z => absurd z (by omega)) u9.1.cg (fun z => absurd z (by omega)) (fun _ => u9.2), fun c1 => ?_⟩
    exfalso
    omega
theorem L_restore {j : Int} (C : CP h D s N) (G : CD D s N) (o : OS h) (hvj : InR j) (hN8 : N ≤ 99999999) (hN : N ≤ N') (H : ∀ (kr : Int) h', kr = tRs D j → (tRs D j = 0 → hi h' 139 0 = scp (861 * (8 + j)) (D 8) 861 0 s 0 ∧ InR (scp (861 * (8 + j)) (D 8) 861 0 s 0)) → CG h h' → (tRs D j = 0 → CP h' (dst D 0 14 0) (scp (861 * (8 + j)) (D 8) 861 0 s) N' ∧ HI (D 0 3) (D 0 4) (D 0 2) N (scp (861 * (8 + j)) (D 8) 861 0 s) ∧ scp (861 * (8 + j)) (D 8) 861 0 s (-1) = -1) → (tRs D j ≠ 0 → CP h' D s N') → Q kr h') : RUN GQ (d + 8) m_L_restore [pA 64, pI j, pA 139] h Q X := by
  obtain ⟨B, A, B2, A2, nx, EP, E, C⟩ := C
  obtain ⟨cpl, cft, ce, csp, cbf, cou, cps, css, crr, ckn, cn1⟩ := id C
  have tr := tRs_or2 D j
  rw [e_L_restore]
  refine WP.of (RUN.mono GQ _) (cuts := []) (n := 400) (v_L_restore_0 _ _ _ _ _ _ _ ?_)
  refine ⟨cft.k, ⟨by decide, by decide⟩, S_X6_restore cft cpl.ab css cn1 crr hvj (fun h9 F9 t m9 kp => ?_) (fun e9 n9' c9 l9 => ?_)⟩
  · have hj : 0 ≤ j ∧ j ≤ 1 := by omega
    have u9 := C.rest hj m9 kp G.sw G.s2 hN
    have r := scp_S (o := 861 * (8 + j)) kp (by omega) G.sw G.s2
    have e0 := r.2.1.e0
    have iv : InR (scp (861 * (8 + j)) (D 8) 861 0 s 0) := ir (by omega) (by omega)
    rw [u9.2]
    exact W_out o u9.1.1 iv (fun h2 g2 i2 k2 => H 0 h2 t.symm (fun _ => ⟨i2, iv⟩) g2 (fun _ => ⟨k2 _ _ _ u9.1.2, r.2.1, r.2.2.1⟩) (fun y => absurd t y))
  · have u9 := C.up (n' := n9') l9 hN
    refine ⟨fun c1 => H 1 _ (by omega) (fun z => absurd z (by omega)) u9.1.cg (fun z => absurd z (by omega)) (fun _ => u9.2), fun c1 => ?_⟩
    refine ⟨fun c1 => H 2 _ (by omega) (fun z => absurd z (by omega)) u9.1.cg (fun z => absurd z (by omega)) (fun _ => u9.2), fun c1 => ?_⟩
    exfalso
    omega
end LMS
