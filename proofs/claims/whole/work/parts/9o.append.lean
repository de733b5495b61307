/-! the model: append, find (written by wip/whole/tools/eng.py) -/
section VCS
variable {call : PC} {mc ms fr : Nat} {Q : Int → PH → Prop} {X : Nat → PH → Prop} {K : PK}
set_option maxRecDepth 100000 in
theorem v_X7_append_0 (a0 : Nat) (i1 : Int) (i2 : Int) (i3 : Int) (i4 : Int) (i5 : Int) (z6 : Option PV) (z7 : Option PV) (h : PH) (c s : Nat) (H : hk h a0 = 8 ∧ ∀ h1, h1 = hsi h a0 0 0 →
 hk h1 a0 = 8 ∧ InR ((hi h1 a0 17) + 20) ∧ InR 700 ∧ (700 < ((hi h1 a0 17) + 20) →
 Q ((-1)) h1) ∧
(((hi h1 a0 17) + 20) ≤ 700 →
 K 23 [some (pA a0), some (pI i1), some (pI i2), some (pI i3), some (pI i4), some (pI i5), some (pI 0), z7] [] h1 c s)) : wpc k_X7_append [] call mc ms fr Q X [23] K 400 (pto 0 k_X7_append) [some (pA a0), some (pI i1), some (pI i2), some (pI i3), some (pI i4), some (pI i5), z6, z7] [] h c s :=
  H
set_option maxRecDepth 100000 in
theorem v_X7_append_23 (a0 : Nat) (i1 : Int) (i2 : Int) (i3 : Int) (i4 : Int) (i5 : Int) (i6 : Int) (z7 : Option PV) (h : PH) (c s : Nat) (H : InR i6 ∧ InR 20 ∧ (i6 < 20 →
 InR i6 ∧ InR 4 ∧ (i6 < 4 →
 hk h a0 = 8 ∧ hk h a0 = 8 ∧ InR i6 ∧ InR 4 ∧ (4 : Int) ≠ 0 ∧ hk h (hr h a0 16) = 20 ∧ (0 ≤ ((hi h a0 17) + i6) ∧ ((hi h a0 17) + i6) < (hl h (hr h a0 16) : Int)) ∧ ∀ h1, h1 = hsi h (hr h a0 16) (Int.toNat (((hi h a0 17) + i6))) (band (bshr i1 (24 - (8 * (Int.tmod i6 4)))) 255) →
 K 23 [some (pA a0), some (pI i1), some (pI i2), some (pI i3), some (pI i4), some (pI i5), some (pI (i6 + 1)), some (pI i1)] [] h1 c s) ∧
(4 ≤ i6 →
 InR i6 ∧ InR 8 ∧ (i6 < 8 →
 hk h a0 = 8 ∧ hk h a0 = 8 ∧ InR i6 ∧ InR 4 ∧ (4 : Int) ≠ 0 ∧ hk h (hr h a0 16) = 20 ∧ (0 ≤ ((hi h a0 17) + i6) ∧ ((hi h a0 17) + i6) < (hl h (hr h a0 16) : Int)) ∧ ∀ h2, h2 = hsi h (hr h a0 16) (Int.toNat (((hi h a0 17) + i6))) (band (bshr i2 (24 - (8 * (Int.tmod i6 4)))) 255) →
 K 23 [some (pA a0), some (pI i1), some (pI i2), some (pI i3), some (pI i4), some (pI i5), some (pI (i6 + 1)), some (pI i2)] [] h2 c s) ∧
(8 ≤ i6 →
 InR i6 ∧ InR 12 ∧ (i6 < 12 →
 hk h a0 = 8 ∧ hk h a0 = 8 ∧ InR i6 ∧ InR 4 ∧ (4 : Int) ≠ 0 ∧ hk h (hr h a0 16) = 20 ∧ (0 ≤ ((hi h a0 17) + i6) ∧ ((hi h a0 17) + i6) < (hl h (hr h a0 16) : Int)) ∧ ∀ h3, h3 = hsi h (hr h a0 16) (Int.toNat (((hi h a0 17) + i6))) (band (bshr i3 (24 - (8 * (Int.tmod i6 4)))) 255) →
 K 23 [some (pA a0), some (pI i1), some (pI i2), some (pI i3), some (pI i4), some (pI i5), some (pI (i6 + 1)), some (pI i3)] [] h3 c s) ∧
(12 ≤ i6 →
 InR i6 ∧ InR 16 ∧ (i6 < 16 →
 hk h a0 = 8 ∧ hk h a0 = 8 ∧ InR i6 ∧ InR 4 ∧ (4 : Int) ≠ 0 ∧ hk h (hr h a0 16) = 20 ∧ (0 ≤ ((hi h a0 17) + i6) ∧ ((hi h a0 17) + i6) < (hl h (hr h a0 16) : Int)) ∧ ∀ h4, h4 = hsi h (hr h a0 16) (Int.toNat (((hi h a0 17) + i6))) (band (bshr i4 (24 - (8 * (Int.tmod i6 4)))) 255) →
 K 23 [some (pA a0), some (pI i1), some (pI i2), some (pI i3), some (pI i4), some (pI i5), some (pI (i6 + 1)), some (pI i4)] [] h4 c s) ∧
(16 ≤ i6 →
 hk h a0 = 8 ∧ hk h a0 = 8 ∧ InR i6 ∧ InR 4 ∧ (4 : Int) ≠ 0 ∧ hk h (hr h a0 16) = 20 ∧ (0 ≤ ((hi h a0 17) + i6) ∧ ((hi h a0 17) + i6) < (hl h (hr h a0 16) : Int)) ∧ ∀ h5, h5 = hsi h (hr h a0 16) (Int.toNat (((hi h a0 17) + i6))) (band (bshr i5 (24 - (8 * (Int.tmod i6 4)))) 255) →
 K 23 [some (pA a0), some (pI i1), some (pI i2), some (pI i3), some (pI i4), some (pI i5), some (pI (i6 + 1)), some (pI i5)] [] h5 c s))))) ∧
(20 ≤ i6 →
 hk h a0 = 8 ∧ hk h a0 = 8 ∧ ∀ h6, h6 = hsi h a0 17 ((hi h a0 17) + 20) →
 hk h6 a0 = 8 ∧ Q (hi h6 a0 17) h6)) : wpc k_X7_append [] call mc ms fr Q X [23] K 400 (pto 23 k_X7_append) [some (pA a0), some (pI i1), some (pI i2), some (pI i3), some (pI i4), some (pI i5), some (pI i6), z7] [] h c s :=
  H
set_option maxRecDepth 100000 in
theorem v_X7_find_0 (a0 : Nat) (i1 : Int) (i2 : Int) (h : PH) (c s : Nat) (H : hk h a0 = 8 ∧ call m_X7_notLoaded [pA a0] h (fun x1 h1 =>
 InR x1 ∧ (x1 = 0 →
 hk h1 a0 = 8 ∧ call m_X7_in [pI i2, pI 0, pI (hi h1 a0 17)] h1 (fun x2 h2 =>
 InR x2 ∧ (x2 = 0 →
 hk h2 a0 = 8 ∧ call m_X7_refuse [pA a0, pI 1, pI 2] h2 (fun x3 h3 =>
 InR x3 ∧ (x3 = 0 →
 hk h3 a0 = 8 ∧ ∀ h4, h4 = hsi h3 a0 17 0 →
 InR i1 ∧ (i1 = 0 →
 hk h4 a0 = 8 ∧ hk h4 a0 = 8 ∧ hk h4 a0 = 8 ∧ call m_X7_named [pA a0, pA (hr h4 a0 7), pI (hi h4 a0 4), pI 0, pI i2] h4 (fun x5 h5 =>
 Q x5 h5) X) ∧
(i1 ≠ 0 →
 hk h4 a0 = 8 ∧ hk h4 a0 = 8 ∧ hk h4 a0 = 8 ∧ call m_X7_named [pA a0, pA (hr h4 a0 6), pI (hi h4 a0 3), pI 0, pI i2] h4 (fun x6 h6 =>
 Q x6 h6) X)) ∧
(x3 ≠ 0 →
 Q 0 h3)) X) ∧
(x2 ≠ 0 →
 hk h2 a0 = 8 ∧ call m_X7_refuse [pA a0, pI 0, pI 2] h2 (fun x7 h7 =>
 InR x7 ∧ (x7 = 0 →
 hk h7 a0 = 8 ∧ ∀ h8, h8 = hsi h7 a0 17 0 →
 InR i1 ∧ (i1 = 0 →
 hk h8 a0 = 8 ∧ hk h8 a0 = 8 ∧ hk h8 a0 = 8 ∧ call m_X7_named [pA a0, pA (hr h8 a0 7), pI (hi h8 a0 4), pI 0, pI i2] h8 (fun x9 h9 =>
 Q x9 h9) X) ∧
(i1 ≠ 0 →
 hk h8 a0 = 8 ∧ hk h8 a0 = 8 ∧ hk h8 a0 = 8 ∧ call m_X7_named [pA a0, pA (hr h8 a0 6), pI (hi h8 a0 3), pI 0, pI i2] h8 (fun x10 h10 =>
 Q x10 h10) X)) ∧
(x7 ≠ 0 →
 Q 0 h7)) X)) X) ∧
(x1 ≠ 0 →
 Q 0 h1)) X) : wpc k_X7_find [] call mc ms fr Q X [] K 400 (pto 0 k_X7_find) [some (pA a0), some (pI i1), some (pI i2)] [] h c s :=
  H
end VCS
theorem L_X7_append_23 {d b : Nat} {h0 : PH} {s : Int → Int} {t : Int} {Q : Int → PH → Prop} {X : Nat → PH → Prop} {a1 b1 c1 d1 e1 : Int}  : ∀ (n : Nat) (k : Int) (z7 : Option PV) (D : Nat → Int → Int) (h : PH), (Mt b h0 h D s t) → (0 ≤ k ∧ k + n = 20) → (0 ≤ D 0 17 ∧ D 0 17 ≤ 680) → (∀ (x : Int) h', x = D 0 17 + 20 → Mt b h0 h' (dst (apl a1 b1 c1 d1 e1 n k D) 0 17 (D 0 17 + 20)) s t → Q x h') → WP k_X7_append [] (RUN GQ (d + 0)) 0 0 (d + 1) Q X 23 [some (pA b), some (pI a1), some (pI b1), some (pI c1), some (pI d1), some (pI e1), some (pI k), z7] [] h 0 0 := by
  intro n
  induction n with
  | zero =>
    intro k z7 D h M hk h17 H
    refine WP.of (RUN.mono GQ _) (cuts := [23]) (n := 400) (v_X7_append_23 _ _ _ _ _ _ _ _ _ _ _ ?_)
    refine ⟨ir (by omega) (by omega), ir (by omega) (by omega), fun c27 => ?_, fun c27 => ?_⟩
    · exfalso; omega
    · refine ⟨M.k0, ?_⟩
      try rw [M.f17]
      refine M.p17 (fun h121 M121 => ?_)
      refine ⟨M121.k0, ?_⟩
      try rw [M121.f17]
      rw [dst_eq]
      exact H _ _ rfl M121
  | succ n ih =>
    intro k z7 D h M hk h17 H
    refine WP.of (RUN.mono GQ _) (cuts := [23]) (n := 400) (v_X7_append_23 _ _ _ _ _ _ _ _ _ _ _ ?_)
    refine ⟨ir (by omega) (by omega), ir (by omega) (by omega), fun c27 => ?_, fun c27 => ?_⟩
    · refine ⟨ir (by omega) (by omega), ir (by omega) (by omega), fun c33 => ?_, fun c33 => ?_⟩
      · refine ⟨M.k0, ?_⟩
        try rw [M.r16]
        refine ⟨M.k0, ?_⟩
        try rw [M.f17]
        refine ⟨ir (by omega) (by omega), ir (by omega) (by omega), (by omega), ?_⟩
        refine M.as10 (by omega) (by omega) (fun h106 M106 => ?_)
        have MF := M106.castD (D' := dst D 10 (D 0 17 + k) (apb a1 b1 c1 d1 e1 k)) (congrArg (dst D 10 (D 0 17 + k)) (by unfold apb; first | rw [if_pos (by omega)] | rw [if_neg (by omega), if_pos (by omega)] | rw [if_neg (by omega), if_neg (by omega), if_pos (by omega)] | rw [if_neg (by omega), if_neg (by omega), if_neg (by omega), if_pos (by omega)] | rw [if_neg (by omega), if_neg (by omega), if_neg (by omega), if_neg (by omega)]))
        have f17 : dst D 10 (D 0 17 + k) (apb a1 b1 c1 d1 e1 k) 0 17 = D 0 17 := by rw [dst_row (by decide)]
        refine ih _ _ _ _ MF (by omega) (by omega) ?_
        rw [f17]
        exact H
      · refine ⟨ir (by omega) (by omega), ir (by omega) (by omega), fun c44 => ?_, fun c44 => ?_⟩
        · refine ⟨M.k0, ?_⟩
          try rw [M.r16]
          refine ⟨M.k0, ?_⟩
          try rw [M.f17]
          refine ⟨ir (by omega) (by omega), ir (by omega) (by omega), (by omega), ?_⟩
          refine M.as10 (by omega) (by omega) (fun h106 M106 => ?_)
          have MF := M106.castD (D' := dst D 10 (D 0 17 + k) (apb a1 b1 c1 d1 e1 k)) (congrArg (dst D 10 (D 0 17 + k)) (by unfold apb; first | rw [if_pos (by omega)] | rw [if_neg (by omega), if_pos (by omega)] | rw [if_neg (by omega), if_neg (by omega), if_pos (by omega)] | rw [if_neg (by omega), if_neg (by omega), if_neg (by omega), if_pos (by omega)] | rw [if_neg (by omega), if_neg (by omega), if_neg (by omega), if_neg (by omega)]))
          have f17 : dst D 10 (D 0 17 + k) (apb a1 b1 c1 d1 e1 k) 0 17 = D 0 17 := by rw [dst_row (by decide)]
          refine ih _ _ _ _ MF (by omega) (by omega) ?_
          rw [f17]
          exact H
        · refine ⟨ir (by omega) (by omega), ir (by omega) (by omega), fun c55 => ?_, fun c55 => ?_⟩
          · refine ⟨M.k0, ?_⟩
            try rw [M.r16]
            refine ⟨M.k0, ?_⟩
            try rw [M.f17]
            refine ⟨ir (by omega) (by omega), ir (by omega) (by omega), (by omega), ?_⟩
            refine M.as10 (by omega) (by omega) (fun h106 M106 => ?_)
            have MF := M106.castD (D' := dst D 10 (D 0 17 + k) (apb a1 b1 c1 d1 e1 k)) (congrArg (dst D 10 (D 0 17 + k)) (by unfold apb; first | rw [if_pos (by omega)] | rw [if_neg (by omega), if_pos (by omega)] | rw [if_neg (by omega), if_neg (by omega), if_pos (by omega)] | rw [if_neg (by omega), if_neg (by omega), if_neg (by omega), if_pos (by omega)] | rw [if_neg (by omega), if_neg (by omega), if_neg (by omega), if_neg (by omega)]))
            have f17 : dst D 10 (D 0 17 + k) (apb a1 b1 c1 d1 e1 k) 0 17 = D 0 17 := by rw [dst_row (by decide)]
            refine ih _ _ _ _ MF (by omega) (by omega) ?_
            rw [f17]
            exact H
          · refine ⟨ir (by omega) (by omega), ir (by omega) (by omega), fun c66 => ?_, fun c66 => ?_⟩
            · refine ⟨M.k0, ?_⟩
              try rw [M.r16]
              refine ⟨M.k0, ?_⟩
              try rw [M.f17]
              refine ⟨ir (by omega) (by omega), ir (by omega) (by omega), (by omega), ?_⟩
              refine M.as10 (by omega) (by omega) (fun h106 M106 => ?_)
              have MF := M106.castD (D' := dst D 10 (D 0 17 + k) (apb a1 b1 c1 d1 e1 k)) (congrArg (dst D 10 (D 0 17 + k)) (by unfold apb; first | rw [if_pos (by omega)] | rw [if_neg (by omega), if_pos (by omega)] | rw [if_neg (by omega), if_neg (by omega), if_pos (by omega)] | rw [if_neg (by omega), if_neg (by omega), if_neg (by omega), if_pos (by omega)] | rw [if_neg (by omega), if_neg (by omega), if_neg (by omega), if_neg (by omega)]))
              have f17 : dst D 10 (D 0 17 + k) (apb a1 b1 c1 d1 e1 k) 0 17 = D 0 17 := by rw [dst_row (by decide)]
              refine ih _ _ _ _ MF (by omega) (by omega) ?_
              rw [f17]
              exact H
            · refine ⟨M.k0, ?_⟩
              try rw [M.r16]
              refine ⟨M.k0, ?_⟩
              try rw [M.f17]
              refine ⟨ir (by omega) (by omega), ir (by omega) (by omega), (by omega), ?_⟩
              refine M.as10 (by omega) (by omega) (fun h106 M106 => ?_)
              have MF := M106.castD (D' := dst D 10 (D 0 17 + k) (apb a1 b1 c1 d1 e1 k)) (congrArg (dst D 10 (D 0 17 + k)) (by unfold apb; first | rw [if_pos (by omega)] | rw [if_neg (by omega), if_pos (by omega)] | rw [if_neg (by omega), if_neg (by omega), if_pos (by omega)] | rw [if_neg (by omega), if_neg (by omega), if_neg (by omega), if_pos (by omega)] | rw [if_neg (by omega), if_neg (by omega), if_neg (by omega), if_neg (by omega)]))
              have f17 : dst D 10 (D 0 17 + k) (apb a1 b1 c1 d1 e1 k) 0 17 = D 0 17 := by rw [dst_row (by decide)]
              refine ih _ _ _ _ MF (by omega) (by omega) ?_
              rw [f17]
              exact H
    · exfalso; omega
theorem S_X7_append {d b : Nat} {h0 h : PH} {D : Nat → Int → Int} {s : Int → Int} {t : Int} {Q : Int → PH → Prop} {X : Nat → PH → Prop} {a1 b1 c1 d1 e1 : Int} (M : Mt b h0 h D s t) (h17 : 0 ≤ D 0 17 ∧ D 0 17 ≤ 700) (H : ∀ (x : Int) h' D', (700 < D 0 17 + 20 → x = -1 ∧ D' = D) → (D 0 17 + 20 ≤ 700 → x = D 0 17 + 20 ∧ D' = dst (apl a1 b1 c1 d1 e1 20 0 D) 0 17 (D 0 17 + 20)) → Mt b h0 h' D' s 0 → Q x h') : RUN GQ (d + 1) m_X7_append [pA b, pI a1, pI b1, pI c1, pI d1, pI e1] h Q X := by
  rw [e_X7_append]
  refine WP.of (RUN.mono GQ _) (cuts := [23]) (n := 400) (v_X7_append_0 _ _ _ _ _ _ _ _ _ _ _ ?_)
  refine M.p0 (fun h2 M2 => ?_)
  refine ⟨M2.k0, ?_⟩
  try rw [M2.f17]
  refine ⟨ir (by omega) (by omega), ir (by omega) (by omega), fun c15 => ?_, fun c15 => ?_⟩
  · exact H _ _ _ (fun _ => ⟨rfl, rfl⟩) (fun z => absurd z (by omega)) M2
  · refine L_X7_append_23 (20) _ _ _ _ M2 (by omega) (by omega) ?_
    exact fun x h' e M => H x h' _ (fun z => absurd z (by omega)) (fun _ => ⟨e, rfl⟩) M
theorem S_X7_find {d b : Nat} {h0 h : PH} {D : Nat → Int → Int} {s : Int → Int} {t : Int} {Q : Int → PH → Prop} {X : Nat → PH → Prop} {N : Int} {z n : Int} (M : Mt b h0 h D s t) (W : WD D s N) (hvn : InR n) (hz : z = 0 ∨ z = 1) (h17 : 0 ≤ D 0 17 ∧ D 0 17 ≤ 700) (hB : BY D) (hN1 : NB (D 1)) (hN2 : NB (D 2)) (H : ∀ (x : Int) h' D', (ck (tL D) n 0 (D 0 17) 2 = 0 → x = (if z = 0 then nmv (D 2) D 0 n (D 0 4).toNat 0 else nmv (D 1) D 0 n (D 0 3).toNat 0) ∧ D' = dst D 0 17 0) → (ck (tL D) n 0 (D 0 17) 2 ≠ 0 → D' = D) → Mt b h0 h' D' s (ck (tL D) n 0 (D 0 17) 2) → Q x h') : RUN GQ (d + 3) m_X7_find [pA b, pI z, pI n] h Q X := by
  obtain ⟨w1, w2, w3, wN, ws1, wI⟩ := id W
  have kL := tL_or D
  have k1 := ck_or (tL D) n 0 (D 0 17) 2
  rw [e_X7_find]
  refine WP.of (RUN.mono GQ _) (cuts := []) (n := 400) (v_X7_find_0 _ _ _ _ _ _ ?_)
  refine ⟨M.k0, ?_⟩
  refine S_X7_notLoaded M W (fun x1 h1 e1 M1 => ?_)
  refine ⟨ir (by omega) (by omega), fun c4 => ?_, fun c4 => ?_⟩
  · refine ⟨M1.k0, ?_⟩
    try rw [M1.f17]
    refine S_X7_inB (by omega) (by omega) (by omega) (fun x14 e14 => ?_)
    refine ⟨ir (by omega) (by omega), fun c17 => ?_, fun c17 => ?_⟩
    · refine ⟨M1.k0, ?_⟩
      refine S_X7_refuse M1 (by omega) (by omega) (by omega) (fun x26 h26 t26 e26 M26 => ?_)
      refine ⟨ir (by omega) (by omega), fun c29 => ?_, fun c29 => ?_⟩
      · refine M26.p17 (fun h36 M36 => ?_)
        have r1 : dst D 0 17 0 1 = D 1 := dst_row (by decide)
        have r2 : dst D 0 17 0 2 = D 2 := dst_row (by decide)
        have r10 : dst D 0 17 0 10 = D 10 := dst_row (by decide)
        have r3 : dst D 0 17 0 0 3 = D 0 3 := dst_ne (by decide)
        have r4 : dst D 0 17 0 0 4 = D 0 4 := dst_ne (by decide)
        refine ⟨ir (by omega) (by omega), fun c40 => ?_, fun c40 => ?_⟩
        · refine ⟨M36.k0, ?_⟩
          try rw [M36.r7]
          refine ⟨M36.k0, ?_⟩
          try rw [M36.f4]
          refine ⟨M36.k0, ?_⟩
          refine S_X7_named_2 M36 (by omega) (by omega) (by omega) (by exact hB.of r10) (by rw [r2]; exact hN2) (fun x71 e71 => ?_)
          subst e71
          refine H _ _ _ (fun _ => ⟨?_, rfl⟩) (fun z => absurd (by omega) z) (M36.castT (by omega))
          first
          | (rw [if_neg (by omega), r1, r3, nmv_D r10]; done)
          | (rw [if_pos (by omega), r2, r4, nmv_D r10]; done)
        · refine ⟨M36.k0, ?_⟩
          try rw [M36.r6]
          refine ⟨M36.k0, ?_⟩
          try rw [M36.f3]
          refine ⟨M36.k0, ?_⟩
          refine S_X7_named_1 M36 (by omega) (by omega) (by omega) (by exact hB.of r10) (by rw [r1]; exact hN1) (fun x54 e54 => ?_)
          subst e54
          refine H _ _ _ (fun _ => ⟨?_, rfl⟩) (fun z => absurd (by omega) z) (M36.castT (by omega))
          first
          | (rw [if_neg (by omega), r1, r3, nmv_D r10]; done)
          | (rw [if_pos (by omega), r2, r4, nmv_D r10]; done)
      · exact H _ _ D (fun z => absurd z (by omega)) (fun _ => rfl) (M26.castT (by omega))
    · refine ⟨M1.k0, ?_⟩
      refine S_X7_refuse M1 (by omega) (by omega) (by omega) (fun x26 h26 t26 e26 M26 => ?_)
      refine ⟨ir (by omega) (by omega), fun c29 => ?_, fun c29 => ?_⟩
      · refine M26.p17 (fun h36 M36 => ?_)
        have r1 : dst D 0 17 0 1 = D 1 := dst_row (by decide)
        have r2 : dst D 0 17 0 2 = D 2 := dst_row (by decide)
        have r10 : dst D 0 17 0 10 = D 10 := dst_row (by decide)
        have r3 : dst D 0 17 0 0 3 = D 0 3 := dst_ne (by decide)
        have r4 : dst D 0 17 0 0 4 = D 0 4 := dst_ne (by decide)
        refine ⟨ir (by omega) (by omega), fun c40 => ?_, fun c40 => ?_⟩
        · refine ⟨M36.k0, ?_⟩
          try rw [M36.r7]
          refine ⟨M36.k0, ?_⟩
          try rw [M36.f4]
          refine ⟨M36.k0, ?_⟩
          refine S_X7_named_2 M36 (by omega) (by omega) (by omega) (by exact hB.of r10) (by rw [r2]; exact hN2) (fun x71 e71 => ?_)
          subst e71
          refine H _ _ _ (fun _ => ⟨?_, rfl⟩) (fun z => absurd (by omega) z) (M36.castT (by omega))
          first
          | (rw [if_neg (by omega), r1, r3, nmv_D r10]; done)
          | (rw [if_pos (by omega), r2, r4, nmv_D r10]; done)
        · refine ⟨M36.k0, ?_⟩
          try rw [M36.r6]
          refine ⟨M36.k0, ?_⟩
          try rw [M36.f3]
          refine ⟨M36.k0, ?_⟩
          refine S_X7_named_1 M36 (by omega) (by omega) (by omega) (by exact hB.of r10) (by rw [r1]; exact hN1) (fun x54 e54 => ?_)
          subst e54
          refine H _ _ _ (fun _ => ⟨?_, rfl⟩) (fun z => absurd (by omega) z) (M36.castT (by omega))
          first
          | (rw [if_neg (by omega), r1, r3, nmv_D r10]; done)
          | (rw [if_pos (by omega), r2, r4, nmv_D r10]; done)
      · exact H _ _ D (fun z => absurd z (by omega)) (fun _ => rfl) (M26.castT (by omega))
  · exact H _ _ D (fun z => absurd z (by omega)) (fun _ => rfl) (M1.castT (by omega))
