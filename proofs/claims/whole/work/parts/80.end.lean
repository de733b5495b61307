/-! the class's hall: an end (written by wip/whole/tools/eng.py) -/
section VCS
variable {call : PC} {mc ms fr : Nat} {Q : Int → PH → Prop} {X : Nat → PH → Prop} {K : PK}
set_option maxRecDepth 100000 in
theorem v_X0_endSignal_0 (a0 : Nat) (a1 : Nat) (i2 : Int) (i3 : Int) (i4 : Int) (z5 : Option PV) (z6 : Option PV) (h : PH) (c s : Nat) (H : hk h a1 = 2 ∧ call m_X1_part [pA a1, pI i2, pI i3, pI 0] h (fun x1 h1 =>
 hk h1 a0 = 1 ∧ InR (hi h1 a0 9) ∧ InR 40 ∧ (40 : Int) ≠ 0 ∧ InR ((Int.tmod (hi h1 a0 9) 40) * 5) ∧ (((Int.tmod (hi h1 a0 9) 40) * 5) < 0 →
 Q 0 h1) ∧
(0 ≤ ((Int.tmod (hi h1 a0 9) 40) * 5) →
 hk h1 a0 = 1 ∧ (20 ≤ hk h1 (hr h1 a0 8) ∧ hk h1 (hr h1 a0 8) ≤ 26) ∧ InR (((Int.tmod (hi h1 a0 9) 40) * 5) + 4) ∧ InR ((hl h1 (hr h1 a0 8) : Int)) ∧ ((((Int.tmod (hi h1 a0 9) 40) * 5) + 4) < ((hl h1 (hr h1 a0 8) : Int)) →
 InR i4 ∧ (i4 < 0 →
 Q 0 h1) ∧
(0 ≤ i4 →
 hk h1 a0 = 1 ∧ (20 ≤ hk h1 (hr h1 a0 7) ∧ hk h1 (hr h1 a0 7) ≤ 26) ∧ InR i4 ∧ InR ((hl h1 (hr h1 a0 7) : Int)) ∧ (i4 < ((hl h1 (hr h1 a0 7) : Int)) →
 hk h1 a0 = 1 ∧ hk h1 (hr h1 a0 8) = 20 ∧ (0 ≤ (((Int.tmod (hi h1 a0 9) 40) * 5) + 0) ∧ (((Int.tmod (hi h1 a0 9) 40) * 5) + 0) < (hl h1 (hr h1 a0 8) : Int)) ∧ ∀ h2, h2 = hsi h1 (hr h1 a0 8) (Int.toNat ((((Int.tmod (hi h1 a0 9) 40) * 5) + 0))) x1 →
 hk h2 a0 = 1 ∧ hk h2 (hr h2 a0 8) = 20 ∧ (0 ≤ (((Int.tmod (hi h1 a0 9) 40) * 5) + 1) ∧ (((Int.tmod (hi h1 a0 9) 40) * 5) + 1) < (hl h2 (hr h2 a0 8) : Int)) ∧ ∀ h3, h3 = hsi h2 (hr h2 a0 8) (Int.toNat ((((Int.tmod (hi h1 a0 9) 40) * 5) + 1))) i4 →
 hk h3 a0 = 1 ∧ hk h3 a0 = 1 ∧ hk h3 (hr h3 a0 8) = 20 ∧ (0 ≤ (((Int.tmod (hi h1 a0 9) 40) * 5) + 2) ∧ (((Int.tmod (hi h1 a0 9) 40) * 5) + 2) < (hl h3 (hr h3 a0 8) : Int)) ∧ ∀ h4, h4 = hsi h3 (hr h3 a0 8) (Int.toNat ((((Int.tmod (hi h1 a0 9) 40) * 5) + 2))) (hi h3 a0 10) →
 hk h4 a0 = 1 ∧ hk h4 (hr h4 a0 8) = 20 ∧ (0 ≤ (((Int.tmod (hi h1 a0 9) 40) * 5) + 3) ∧ (((Int.tmod (hi h1 a0 9) 40) * 5) + 3) < (hl h4 (hr h4 a0 8) : Int)) ∧ ∀ h5, h5 = hsi h4 (hr h4 a0 8) (Int.toNat ((((Int.tmod (hi h1 a0 9) 40) * 5) + 3))) i2 →
 hk h5 a0 = 1 ∧ hk h5 a1 = 2 ∧ call m_X1_part [pA a1, pI i2, pI i3, pI 1] h5 (fun x6 h6 =>
 hk h6 (hr h5 a0 8) = 20 ∧ (0 ≤ (((Int.tmod (hi h1 a0 9) 40) * 5) + 4) ∧ (((Int.tmod (hi h1 a0 9) 40) * 5) + 4) < (hl h6 (hr h5 a0 8) : Int)) ∧ ∀ h7, h7 = hsi h6 (hr h5 a0 8) (Int.toNat ((((Int.tmod (hi h1 a0 9) 40) * 5) + 4))) x6 →
 hk h7 a0 = 1 ∧ hk h7 a0 = 1 ∧ ∀ h8, h8 = hsi h7 a0 9 ((hi h7 a0 9) + 1) →
 hk h8 a0 = 1 ∧ (hk h8 (hr h8 a0 7) = 20 ∨ hk h8 (hr h8 a0 7) = 26) ∧ (0 ≤ i4 ∧ i4 < (hl h8 (hr h8 a0 7) : Int)) ∧ hk h8 (hr h8 a0 7) = 20 ∧ (0 ≤ i4 ∧ i4 < (hl h8 (hr h8 a0 7) : Int)) ∧ ∀ h9, h9 = hsi h8 (hr h8 a0 7) (Int.toNat i4) ((hi h8 (hr h8 a0 7) (Int.toNat i4)) + 1) →
 InR i4 ∧ (i4 = 0 →
 hk h9 a0 = 1 ∧ call m_X0_addToTally [pA a0, pI i2, pI 2] h9 (fun _ h10 =>
 InR i4 ∧ (i4 = 0 →
 hk h10 a0 = 1 ∧ hk h10 a0 = 1 ∧ hk h10 a1 = 2 ∧ call m_X1_part [pA a1, pI i2, pI i3, pI 4] h10 (fun x11 h11 =>
 hk h11 a0 = 1 ∧ ∀ h12, h12 = hsi h11 a0 12 ((hi h10 a0 12) + ((hi h10 a0 10) - x11)) →
 hk h12 a0 = 1 ∧ InR x1 ∧ InR (hi h12 a0 13) ∧ (x1 = (hi h12 a0 13) →
 hk h12 a0 = 1 ∧ ∀ h13, h13 = hsi h12 a0 14 i4 →
 hk h13 a1 = 2 ∧ call m_X1_removeRow [pA a1, pI i2, pI i3] h13 (fun _ h14 =>
 Q 0 h14) X) ∧
(x1 ≠ (hi h12 a0 13) →
 hk h12 a1 = 2 ∧ call m_X1_removeRow [pA a1, pI i2, pI i3] h12 (fun _ h15 =>
 Q 0 h15) X)) X) ∧
(i4 ≠ 0 →
 hk h10 a0 = 1 ∧ InR x1 ∧ InR (hi h10 a0 13) ∧ (x1 = (hi h10 a0 13) →
 hk h10 a0 = 1 ∧ ∀ h16, h16 = hsi h10 a0 14 i4 →
 hk h16 a1 = 2 ∧ call m_X1_removeRow [pA a1, pI i2, pI i3] h16 (fun _ h17 =>
 Q 0 h17) X) ∧
(x1 ≠ (hi h10 a0 13) →
 hk h10 a1 = 2 ∧ call m_X1_removeRow [pA a1, pI i2, pI i3] h10 (fun _ h18 =>
 Q 0 h18) X))) X) ∧
(i4 ≠ 0 →
 hk h9 a0 = 1 ∧ call m_X0_addToTally [pA a0, pI i2, pI 3] h9 (fun _ h19 =>
 InR i4 ∧ (i4 = 0 →
 hk h19 a0 = 1 ∧ hk h19 a0 = 1 ∧ hk h19 a1 = 2 ∧ call m_X1_part [pA a1, pI i2, pI i3, pI 4] h19 (fun x20 h20 =>
 hk h20 a0 = 1 ∧ ∀ h21, h21 = hsi h20 a0 12 ((hi h19 a0 12) + ((hi h19 a0 10) - x20)) →
 hk h21 a0 = 1 ∧ InR x1 ∧ InR (hi h21 a0 13) ∧ (x1 = (hi h21 a0 13) →
 hk h21 a0 = 1 ∧ ∀ h22, h22 = hsi h21 a0 14 i4 →
 hk h22 a1 = 2 ∧ call m_X1_removeRow [pA a1, pI i2, pI i3] h22 (fun _ h23 =>
 Q 0 h23) X) ∧
(x1 ≠ (hi h21 a0 13) →
 hk h21 a1 = 2 ∧ call m_X1_removeRow [pA a1, pI i2, pI i3] h21 (fun _ h24 =>
 Q 0 h24) X)) X) ∧
(i4 ≠ 0 →
 hk h19 a0 = 1 ∧ InR x1 ∧ InR (hi h19 a0 13) ∧ (x1 = (hi h19 a0 13) →
 hk h19 a0 = 1 ∧ ∀ h25, h25 = hsi h19 a0 14 i4 →
 hk h25 a1 = 2 ∧ call m_X1_removeRow [pA a1, pI i2, pI i3] h25 (fun _ h26 =>
 Q 0 h26) X) ∧
(x1 ≠ (hi h19 a0 13) →
 hk h19 a1 = 2 ∧ call m_X1_removeRow [pA a1, pI i2, pI i3] h19 (fun _ h27 =>
 Q 0 h27) X))) X)) X) ∧
(((hl h1 (hr h1 a0 7) : Int)) ≤ i4 →
 Q 0 h1))) ∧
(((hl h1 (hr h1 a0 8) : Int)) ≤ (((Int.tmod (hi h1 a0 9) 40) * 5) + 4) →
 Q 0 h1))) X) : wpc k_X0_endSignal [] call mc ms fr Q X [] K 400 (pto 0 k_X0_endSignal) [some (pA a0), some (pA a1), some (pI i2), some (pI i3), some (pI i4), z5, z6] [] h c s :=
  H
end VCS
theorem S_X0_endSignal_q {d b : Nat} {h0 h : PH} {E : Nat → Int → Int} {Q : Int → PH → Prop} {X : Nat → PH → Prop} {p i t : Int} (M : Hx b h0 h E) (hR : E 6 0 = 13) (hp : 0 ≤ p ∧ p < 6) (hix : 0 ≤ i ∧ i < E 7 p) (hs : E 7 p ≤ 13) (ht : 0 ≤ t ∧ t < 6) (hE : 0 ≤ E 0 9 ∧ E 0 9 ≤ 2000000000) (hg : InR (E 8 ((p * 13 + i) * 7 + 0))) (hw : InR (E 0 13)) (H : ∀ (x : Int) h', x = (0) → Hx b h0 h' (c_end 6 13 E p i t) → Q x h') : RUN GQ (d + 2) m_X0_endSignal [pA b, pA (b + 6), pI p, pI i, pI t] h Q X := by
  have h40 := tm40 hE.1
  rw [e_X0_endSignal]
  refine WP.of (RUN.mono GQ _) (cuts := []) (n := 400) (v_X0_endSignal_0 _ _ _ _ _ _ _ _ _ _ ?_)
  refine ⟨Bx.k M 6 (by decide) rfl, ?_⟩
  refine S_X1_part_q M (by exact hR) (by omega) (by omega) (by omega) (fun x4 e4 => ?_)
  subst e4
  refine ⟨Bx.k M 0 (by decide) rfl, ?_⟩
  try rw [show hi h b 9 = _ from Bx.f9 M 0 (by decide)]
  refine ⟨ir (by omega) (by omega), ir (by omega) (by omega), (by omega), ?_⟩
  refine ⟨ir (by omega) (by omega), fun c22 => ?_, fun c22 => ?_⟩
  · first
    | (exfalso; omega)
    | (refine H _ _ rfl (M.cast ?_)
       rw [c_end_eq]
       simp only [c_E10, c_en1, c_en0]
       (repeat' split) <;> first | rfl | (exfalso; omega) | contradiction)
  · refine ⟨Bx.k M 0 (by decide) rfl, ?_⟩
    try rw [show hr h b 8 = b + 13 from Bx.r M 0 8 13 (by decide)]
    refine Bx.al M 13 200 20 (by decide) rfl (by decide) rfl (fun el33 => ?_)
    refine ⟨ir (by omega) (by omega), ir (by omega) (by omega), fun c34 => ?_, fun c34 => ?_⟩
    · refine ⟨ir (by omega) (by omega), fun c39 => ?_, fun c39 => ?_⟩
      · first
        | (exfalso; omega)
        | (refine H _ _ rfl (M.cast ?_)
           rw [c_end_eq]
           simp only [c_E10, c_en1, c_en0]
           (repeat' split) <;> first | rfl | (exfalso; omega) | contradiction)
      · refine ⟨Bx.k M 0 (by decide) rfl, ?_⟩
        try rw [show hr h b 7 = b + 12 from Bx.r M 0 7 12 (by decide)]
        refine Bx.al M 12 6 20 (by decide) rfl (by decide) rfl (fun el48 => ?_)
        refine ⟨ir (by omega) (by omega), ir (by omega) (by omega), fun c49 => ?_, fun c49 => ?_⟩
        · refine ⟨Bx.k M 0 (by decide) rfl, ?_⟩
          try rw [show hr h b 8 = b + 13 from Bx.r M 0 8 13 (by decide)]
          refine Bx.as M 13 200 (by decide) rfl rfl (by omega) (by omega) (fun h63 M63 => ?_)
          refine ⟨Bx.k M63 0 (by decide) rfl, ?_⟩
          try rw [show hr h63 b 8 = b + 13 from Bx.r M63 0 8 13 (by decide)]
          refine Bx.as M63 13 200 (by decide) rfl rfl (by omega) (by omega) (fun h74 M74 => ?_)
          refine ⟨Bx.k M74 0 (by decide) rfl, ?_⟩
          try rw [show hr h74 b 8 = b + 13 from Bx.r M74 0 8 13 (by decide)]
          refine ⟨Bx.k M74 0 (by decide) rfl, ?_⟩
          try rw [show hi h74 b 10 = _ from Bx.f10 M74 0 (by decide)]
          refine Bx.as M74 13 200 (by decide) rfl rfl (by omega) (by omega) (fun h87 M87 => ?_)
          refine ⟨Bx.k M87 0 (by decide) rfl, ?_⟩
          try rw [show hr h87 b 8 = b + 13 from Bx.r M87 0 8 13 (by decide)]
          refine Bx.as M87 13 200 (by decide) rfl rfl (by omega) (by omega) (fun h97 M97 => ?_)
          refine ⟨Bx.k M97 0 (by decide) rfl, ?_⟩
          try rw [show hr h97 b 8 = b + 13 from Bx.r M97 0 8 13 (by decide)]
          refine ⟨Bx.k M97 6 (by decide) rfl, ?_⟩
          refine S_X1_part_q M97 (by exact hR) (by omega) (by omega) (by omega) (fun x110 e110 => ?_)
          subst e110
          refine Bx.as M97 13 200 (by decide) rfl rfl (by omega) (by omega) (fun h113 M113 => ?_)
          refine ⟨Bx.k M113 0 (by decide) rfl, ?_⟩
          try rw [show hi h113 b 9 = _ from Bx.f9 M113 0 (by decide)]
          refine Bx.pf9 M113 0 1 (by decide) rfl (fun h121 M121 => ?_)
          refine ⟨Bx.k M121 0 (by decide) rfl, ?_⟩
          try rw [show hr h121 b 7 = b + 12 from Bx.r M121 0 7 12 (by decide)]
          refine Bx.ld M121 12 6 (by decide) rfl rfl (by omega) (by omega) (fun er => ?_)
          try rw [er]
          clear er
          refine Bx.as M121 12 6 (by decide) rfl rfl (by omega) (by omega) (fun h134 M134 => ?_)
          refine ⟨ir (by omega) (by omega), fun c139 => ?_, fun c139 => ?_⟩
          · refine ⟨Bx.k M134 0 (by decide) rfl, ?_⟩
            refine S_X0_addToTally M134 (by omega) (by omega) (fun x147 h147 e147 M147 => ?_)
            subst e147
            refine ⟨ir (by omega) (by omega), fun c152 => ?_, fun c152 => ?_⟩
            · refine ⟨Bx.k M147 0 (by decide) rfl, ?_⟩
              try rw [show hi h147 b 12 = _ from Bx.f12 M147 0 (by decide)]
              refine ⟨Bx.k M147 0 (by decide) rfl, ?_⟩
              try rw [show hi h147 b 10 = _ from Bx.f10 M147 0 (by decide)]
              refine ⟨Bx.k M147 6 (by decide) rfl, ?_⟩
              refine S_X1_part_q M147 (by exact hR) (by omega) (by omega) (by omega) (fun x168 e168 => ?_)
              subst e168
              refine Bx.pf12 M147 0 1 (by decide) rfl (fun h173 M173 => ?_)
              refine ⟨Bx.k M173 0 (by decide) rfl, ?_⟩
              try rw [show hi h173 b 13 = _ from Bx.f13 M173 0 (by decide)]
              refine ⟨(by first | exact hg | exact hw), (by first | exact hg | exact hw), fun c182 => ?_, fun c182 => ?_⟩
              · refine Bx.pf14 M173 0 1 (by decide) rfl (fun h188 M188 => ?_)
                refine ⟨Bx.k M188 6 (by decide) rfl, ?_⟩
                refine S_X1_removeRow_q M188 (by exact hR) (by omega) (by exact hix) (by exact hs) (fun x194 h194 e194 M194 => ?_)
                subst e194
                first
                | (exfalso; omega)
                | (refine H _ _ rfl (M194.cast ?_)
                   rw [c_end_eq]
                   simp only [c_E10, c_en1, c_en0]
                   (repeat' split) <;> first | rfl | (exfalso; omega) | contradiction)
              · refine ⟨Bx.k M173 6 (by decide) rfl, ?_⟩
                refine S_X1_removeRow_q M173 (by exact hR) (by omega) (by exact hix) (by exact hs) (fun x194 h194 e194 M194 => ?_)
                subst e194
                first
                | (exfalso; omega)
                | (refine H _ _ rfl (M194.cast ?_)
                   rw [c_end_eq]
                   simp only [c_E10, c_en1, c_en0]
                   (repeat' split) <;> first | rfl | (exfalso; omega) | contradiction)
            · exfalso; omega
          · refine ⟨Bx.k M134 0 (by decide) rfl, ?_⟩
            refine S_X0_addToTally M134 (by omega) (by omega) (fun x147 h147 e147 M147 => ?_)
            subst e147
            refine ⟨ir (by omega) (by omega), fun c152 => ?_, fun c152 => ?_⟩
            · exfalso; omega
            · refine ⟨Bx.k M147 0 (by decide) rfl, ?_⟩
              try rw [show hi h147 b 13 = _ from Bx.f13 M147 0 (by decide)]
              refine ⟨(by first | exact hg | exact hw), (by first | exact hg | exact hw), fun c182 => ?_, fun c182 => ?_⟩
              · refine Bx.pf14 M147 0 1 (by decide) rfl (fun h188 M188 => ?_)
                refine ⟨Bx.k M188 6 (by decide) rfl, ?_⟩
                refine S_X1_removeRow_q M188 (by exact hR) (by omega) (by exact hix) (by exact hs) (fun x194 h194 e194 M194 => ?_)
                subst e194
                first
                | (exfalso; omega)
                | (refine H _ _ rfl (M194.cast ?_)
                   rw [c_end_eq]
                   simp only [c_E10, c_en1, c_en0]
                   (repeat' split) <;> first | rfl | (exfalso; omega) | contradiction)
              · refine ⟨Bx.k M147 6 (by decide) rfl, ?_⟩
                refine S_X1_removeRow_q M147 (by exact hR) (by omega) (by exact hix) (by exact hs) (fun x194 h194 e194 M194 => ?_)
                subst e194
                first
                | (exfalso; omega)
                | (refine H _ _ rfl (M194.cast ?_)
                   rw [c_end_eq]
                   simp only [c_E10, c_en1, c_en0]
                   (repeat' split) <;> first | rfl | (exfalso; omega) | contradiction)
        · first
          | (exfalso; omega)
          | (refine H _ _ rfl (M.cast ?_)
             rw [c_end_eq]
             simp only [c_E10, c_en1, c_en0]
             (repeat' split) <;> first | rfl | (exfalso; omega) | contradiction)
    · first
      | (exfalso; omega)
      | (refine H _ _ rfl (M.cast ?_)
         rw [c_end_eq]
         simp only [c_E10, c_en1, c_en0]
         (repeat' split) <;> first | rfl | (exfalso; omega) | contradiction)
theorem S_X0_endSignal_s {d b : Nat} {h0 h : PH} {E : Nat → Int → Int} {Q : Int → PH → Prop} {X : Nat → PH → Prop} {p i t : Int} (M : Hx b h0 h E) (hR : E 9 0 = 4) (hp : 0 ≤ p ∧ p < 6) (hix : 0 ≤ i ∧ i < E 10 p) (hs : E 10 p ≤ 4) (ht : 0 ≤ t ∧ t < 6) (hE : 0 ≤ E 0 9 ∧ E 0 9 ≤ 2000000000) (hg : InR (E 11 ((p * 4 + i) * 7 + 0))) (hw : InR (E 0 13)) (H : ∀ (x : Int) h', x = (0) → Hx b h0 h' (c_end 9 4 E p i t) → Q x h') : RUN GQ (d + 2) m_X0_endSignal [pA b, pA (b + 9), pI p, pI i, pI t] h Q X := by
  have h40 := tm40 hE.1
  rw [e_X0_endSignal]
  refine WP.of (RUN.mono GQ _) (cuts := []) (n := 400) (v_X0_endSignal_0 _ _ _ _ _ _ _ _ _ _ ?_)
  refine ⟨Bx.k M 9 (by decide) rfl, ?_⟩
  refine S_X1_part_s M (by exact hR) (by omega) (by omega) (by omega) (fun x4 e4 => ?_)
  subst e4
  refine ⟨Bx.k M 0 (by decide) rfl, ?_⟩
  try rw [show hi h b 9 = _ from Bx.f9 M 0 (by decide)]
  refine ⟨ir (by omega) (by omega), ir (by omega) (by omega), (by omega), ?_⟩
  refine ⟨ir (by omega) (by omega), fun c22 => ?_, fun c22 => ?_⟩
  · first
    | (exfalso; omega)
    | (refine H _ _ rfl (M.cast ?_)
       rw [c_end_eq]
       simp only [c_E10, c_en1, c_en0]
       (repeat' split) <;> first | rfl | (exfalso; omega) | contradiction)
  · refine ⟨Bx.k M 0 (by decide) rfl, ?_⟩
    try rw [show hr h b 8 = b + 13 from Bx.r M 0 8 13 (by decide)]
    refine Bx.al M 13 200 20 (by decide) rfl (by decide) rfl (fun el33 => ?_)
    refine ⟨ir (by omega) (by omega), ir (by omega) (by omega), fun c34 => ?_, fun c34 => ?_⟩
    · refine ⟨ir (by omega) (by omega), fun c39 => ?_, fun c39 => ?_⟩
      · first
        | (exfalso; omega)
        | (refine H _ _ rfl (M.cast ?_)
           rw [c_end_eq]
           simp only [c_E10, c_en1, c_en0]
           (repeat' split) <;> first | rfl | (exfalso; omega) | contradiction)
      · refine ⟨Bx.k M 0 (by decide) rfl, ?_⟩
        try rw [show hr h b 7 = b + 12 from Bx.r M 0 7 12 (by decide)]
        refine Bx.al M 12 6 20 (by decide) rfl (by decide) rfl (fun el48 => ?_)
        refine ⟨ir (by omega) (by omega), ir (by omega) (by omega), fun c49 => ?_, fun c49 => ?_⟩
        · refine ⟨Bx.k M 0 (by decide) rfl, ?_⟩
          try rw [show hr h b 8 = b + 13 from Bx.r M 0 8 13 (by decide)]
          refine Bx.as M 13 200 (by decide) rfl rfl (by omega) (by omega) (fun h63 M63 => ?_)
          refine ⟨Bx.k M63 0 (by decide) rfl, ?_⟩
          try rw [show hr h63 b 8 = b + 13 from Bx.r M63 0 8 13 (by decide)]
          refine Bx.as M63 13 200 (by decide) rfl rfl (by omega) (by omega) (fun h74 M74 => ?_)
          refine ⟨Bx.k M74 0 (by decide) rfl, ?_⟩
          try rw [show hr h74 b 8 = b + 13 from Bx.r M74 0 8 13 (by decide)]
          refine ⟨Bx.k M74 0 (by decide) rfl, ?_⟩
          try rw [show hi h74 b 10 = _ from Bx.f10 M74 0 (by decide)]
          refine Bx.as M74 13 200 (by decide) rfl rfl (by omega) (by omega) (fun h87 M87 => ?_)
          refine ⟨Bx.k M87 0 (by decide) rfl, ?_⟩
          try rw [show hr h87 b 8 = b + 13 from Bx.r M87 0 8 13 (by decide)]
          refine Bx.as M87 13 200 (by decide) rfl rfl (by omega) (by omega) (fun h97 M97 => ?_)
          refine ⟨Bx.k M97 0 (by decide) rfl, ?_⟩
          try rw [show hr h97 b 8 = b + 13 from Bx.r M97 0 8 13 (by decide)]
          refine ⟨Bx.k M97 9 (by decide) rfl, ?_⟩
          refine S_X1_part_s M97 (by exact hR) (by omega) (by omega) (by omega) (fun x110 e110 => ?_)
          subst e110
          refine Bx.as M97 13 200 (by decide) rfl rfl (by omega) (by omega) (fun h113 M113 => ?_)
          refine ⟨Bx.k M113 0 (by decide) rfl, ?_⟩
          try rw [show hi h113 b 9 = _ from Bx.f9 M113 0 (by decide)]
          refine Bx.pf9 M113 0 1 (by decide) rfl (fun h121 M121 => ?_)
          refine ⟨Bx.k M121 0 (by decide) rfl, ?_⟩
          try rw [show hr h121 b 7 = b + 12 from Bx.r M121 0 7 12 (by decide)]
          refine Bx.ld M121 12 6 (by decide) rfl rfl (by omega) (by omega) (fun er => ?_)
          try rw [er]
          clear er
          refine Bx.as M121 12 6 (by decide) rfl rfl (by omega) (by omega) (fun h134 M134 => ?_)
          refine ⟨ir (by omega) (by omega), fun c139 => ?_, fun c139 => ?_⟩
          · refine ⟨Bx.k M134 0 (by decide) rfl, ?_⟩
            refine S_X0_addToTally M134 (by omega) (by omega) (fun x147 h147 e147 M147 => ?_)
            subst e147
            refine ⟨ir (by omega) (by omega), fun c152 => ?_, fun c152 => ?_⟩
            · refine ⟨Bx.k M147 0 (by decide) rfl, ?_⟩
              try rw [show hi h147 b 12 = _ from Bx.f12 M147 0 (by decide)]
              refine ⟨Bx.k M147 0 (by decide) rfl, ?_⟩
              try rw [show hi h147 b 10 = _ from Bx.f10 M147 0 (by decide)]
              refine ⟨Bx.k M147 9 (by decide) rfl, ?_⟩
              refine S_X1_part_s M147 (by exact hR) (by omega) (by omega) (by omega) (fun x168 e168 => ?_)
              subst e168
              refine Bx.pf12 M147 0 1 (by decide) rfl (fun h173 M173 => ?_)
              refine ⟨Bx.k M173 0 (by decide) rfl, ?_⟩
              try rw [show hi h173 b 13 = _ from Bx.f13 M173 0 (by decide)]
              refine ⟨(by first | exact hg | exact hw), (by first | exact hg | exact hw), fun c182 => ?_, fun c182 => ?_⟩
              · refine Bx.pf14 M173 0 1 (by decide) rfl (fun h188 M188 => ?_)
                refine ⟨Bx.k M188 9 (by decide) rfl, ?_⟩
                refine S_X1_removeRow_s M188 (by exact hR) (by omega) (by exact hix) (by exact hs) (fun x194 h194 e194 M194 => ?_)
                subst e194
                first
                | (exfalso; omega)
                | (refine H _ _ rfl (M194.cast ?_)
                   rw [c_end_eq]
                   simp only [c_E10, c_en1, c_en0]
                   (repeat' split) <;> first | rfl | (exfalso; omega) | contradiction)
              · refine ⟨Bx.k M173 9 (by decide) rfl, ?_⟩
                refine S_X1_removeRow_s M173 (by exact hR) (by omega) (by exact hix) (by exact hs) (fun x194 h194 e194 M194 => ?_)
                subst e194
                first
                | (exfalso; omega)
                | (refine H _ _ rfl (M194.cast ?_)
                   rw [c_end_eq]
                   simp only [c_E10, c_en1, c_en0]
                   (repeat' split) <;> first | rfl | (exfalso; omega) | contradiction)
            · exfalso; omega
          · refine ⟨Bx.k M134 0 (by decide) rfl, ?_⟩
            refine S_X0_addToTally M134 (by omega) (by omega) (fun x147 h147 e147 M147 => ?_)
            subst e147
            refine ⟨ir (by omega) (by omega), fun c152 => ?_, fun c152 => ?_⟩
            · exfalso; omega
            · refine ⟨Bx.k M147 0 (by decide) rfl, ?_⟩
              try rw [show hi h147 b 13 = _ from Bx.f13 M147 0 (by decide)]
              refine ⟨(by first | exact hg | exact hw), (by first | exact hg | exact hw), fun c182 => ?_, fun c182 => ?_⟩
              · refine Bx.pf14 M147 0 1 (by decide) rfl (fun h188 M188 => ?_)
                refine ⟨Bx.k M188 9 (by decide) rfl, ?_⟩
                refine S_X1_removeRow_s M188 (by exact hR) (by omega) (by exact hix) (by exact hs) (fun x194 h194 e194 M194 => ?_)
                subst e194
                first
                | (exfalso; omega)
                | (refine H _ _ rfl (M194.cast ?_)
                   rw [c_end_eq]
                   simp only [c_E10, c_en1, c_en0]
                   (repeat' split) <;> first | rfl | (exfalso; omega) | contradiction)
              · refine ⟨Bx.k M147 9 (by decide) rfl, ?_⟩
                refine S_X1_removeRow_s M147 (by exact hR) (by omega) (by exact hix) (by exact hs) (fun x194 h194 e194 M194 => ?_)
                subst e194
                first
                | (exfalso; omega)
                | (refine H _ _ rfl (M194.cast ?_)
                   rw [c_end_eq]
                   simp only [c_E10, c_en1, c_en0]
                   (repeat' split) <;> first | rfl | (exfalso; omega) | contradiction)
        · first
          | (exfalso; omega)
          | (refine H _ _ rfl (M.cast ?_)
             rw [c_end_eq]
             simp only [c_E10, c_en1, c_en0]
             (repeat' split) <;> first | rfl | (exfalso; omega) | contradiction)
    · first
      | (exfalso; omega)
      | (refine H _ _ rfl (M.cast ?_)
         rw [c_end_eq]
         simp only [c_E10, c_en1, c_en0]
         (repeat' split) <;> first | rfl | (exfalso; omega) | contradiction)
