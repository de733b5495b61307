/-! the class's plan (written by wip/whole/tools/eng.py) -/
section VCS
variable {call : PC} {mc ms fr : Nat} {Q : Int → PH → Prop} {X : Nat → PH → Prop} {K : PK}
set_option maxRecDepth 100000 in
theorem v_X5_ticksOf_0 (a0 : Nat) (i1 : Int) (i2 : Int) (z3 : Option PV) (h : PH) (c s : Nat) (H : InR ((i1 * 8) + i2) ∧ (((i1 * 8) + i2) < 0 →
 Q 0 h) ∧
(0 ≤ ((i1 * 8) + i2) →
 hk h a0 = 6 ∧ (20 ≤ hk h (hr h a0 2) ∧ hk h (hr h a0 2) ≤ 26) ∧ InR ((i1 * 8) + i2) ∧ InR ((hl h (hr h a0 2) : Int)) ∧ (((i1 * 8) + i2) < ((hl h (hr h a0 2) : Int)) →
 hk h a0 = 6 ∧ (hk h (hr h a0 2) = 20 ∨ hk h (hr h a0 2) = 26) ∧ (0 ≤ ((i1 * 8) + i2) ∧ ((i1 * 8) + i2) < (hl h (hr h a0 2) : Int)) ∧ Q (hi h (hr h a0 2) (Int.toNat (((i1 * 8) + i2)))) h) ∧
(((hl h (hr h a0 2) : Int)) ≤ ((i1 * 8) + i2) →
 Q 0 h))) : wpc k_X5_ticksOf [] call mc ms fr Q X [] K 400 (pto 0 k_X5_ticksOf) [some (pA a0), some (pI i1), some (pI i2), z3] [] h c s :=
  H
set_option maxRecDepth 100000 in
theorem v_X5_actsOf_0 (a0 : Nat) (i1 : Int) (i2 : Int) (z3 : Option PV) (h : PH) (c s : Nat) (H : InR ((i1 * 8) + i2) ∧ (((i1 * 8) + i2) < 0 →
 Q 0 h) ∧
(0 ≤ ((i1 * 8) + i2) →
 hk h a0 = 6 ∧ (20 ≤ hk h (hr h a0 3) ∧ hk h (hr h a0 3) ≤ 26) ∧ InR ((i1 * 8) + i2) ∧ InR ((hl h (hr h a0 3) : Int)) ∧ (((i1 * 8) + i2) < ((hl h (hr h a0 3) : Int)) →
 hk h a0 = 6 ∧ (hk h (hr h a0 3) = 20 ∨ hk h (hr h a0 3) = 26) ∧ (0 ≤ ((i1 * 8) + i2) ∧ ((i1 * 8) + i2) < (hl h (hr h a0 3) : Int)) ∧ Q (hi h (hr h a0 3) (Int.toNat (((i1 * 8) + i2)))) h) ∧
(((hl h (hr h a0 3) : Int)) ≤ ((i1 * 8) + i2) →
 Q 0 h))) : wpc k_X5_actsOf [] call mc ms fr Q X [] K 400 (pto 0 k_X5_actsOf) [some (pA a0), some (pI i1), some (pI i2), z3] [] h c s :=
  H
set_option maxRecDepth 100000 in
theorem v_X5_actPart_0 (a0 : Nat) (i1 : Int) (i2 : Int) (i3 : Int) (i4 : Int) (z5 : Option PV) (h : PH) (c s : Nat) (H : InR ((((((i1 * 8) + i2) * 4) + i3) * 4) + i4) ∧ (((((((i1 * 8) + i2) * 4) + i3) * 4) + i4) < 0 →
 Q ((-1)) h) ∧
(0 ≤ ((((((i1 * 8) + i2) * 4) + i3) * 4) + i4) →
 hk h a0 = 6 ∧ (20 ≤ hk h (hr h a0 4) ∧ hk h (hr h a0 4) ≤ 26) ∧ InR ((((((i1 * 8) + i2) * 4) + i3) * 4) + i4) ∧ InR ((hl h (hr h a0 4) : Int)) ∧ (((((((i1 * 8) + i2) * 4) + i3) * 4) + i4) < ((hl h (hr h a0 4) : Int)) →
 hk h a0 = 6 ∧ (hk h (hr h a0 4) = 20 ∨ hk h (hr h a0 4) = 26) ∧ (0 ≤ ((((((i1 * 8) + i2) * 4) + i3) * 4) + i4) ∧ ((((((i1 * 8) + i2) * 4) + i3) * 4) + i4) < (hl h (hr h a0 4) : Int)) ∧ Q (hi h (hr h a0 4) (Int.toNat (((((((i1 * 8) + i2) * 4) + i3) * 4) + i4)))) h) ∧
(((hl h (hr h a0 4) : Int)) ≤ ((((((i1 * 8) + i2) * 4) + i3) * 4) + i4) →
 Q ((-1)) h))) : wpc k_X5_actPart [] call mc ms fr Q X [] K 400 (pto 0 k_X5_actPart) [some (pA a0), some (pI i1), some (pI i2), some (pI i3), some (pI i4), z5] [] h c s :=
  H
end VCS
theorem S_X5_ticksOf {d b : Nat} {h0 h : PH} {EP : Nat → Int → Int} {Q : Int → PH → Prop} {X : Nat → PH → Prop} {p k : Int} (M : Px b h0 h EP) (hp : 0 ≤ p ∧ p < 6) (hkx : 0 ≤ k ∧ k < 8) (H : ∀ x : Int, x = (EP 7 (p * 8 + k)) → Q x h) : RUN GQ (d + 1) m_X5_ticksOf [pA b, pI p, pI k] h Q X := by
  rw [e_X5_ticksOf]
  refine WP.of (RUN.mono GQ _) (cuts := []) (n := 400) (v_X5_ticksOf_0 _ _ _ _ _ _ _ ?_)
  refine ⟨ir (by omega) (by omega), fun c8 => ?_, fun c8 => ?_⟩
  · first
    | (exfalso; omega)
    | (refine H _ ?_
       first | rfl | omega)
  · refine ⟨Bx.k M 0 (by decide) rfl, ?_⟩
    try rw [show hr h b 2 = b + 7 from Bx.r M 0 2 7 (by decide)]
    refine Bx.al M 7 48 20 (by decide) rfl (by decide) rfl (fun el16 => ?_)
    refine ⟨ir (by omega) (by omega), ir (by omega) (by omega), fun c17 => ?_, fun c17 => ?_⟩
    · refine ⟨Bx.k M 0 (by decide) rfl, ?_⟩
      try rw [show hr h b 2 = b + 7 from Bx.r M 0 2 7 (by decide)]
      refine Bx.ld M 7 48 (by decide) rfl rfl (by omega) (by omega) (fun er => ?_)
      try rw [er]
      clear er
      first
      | (exfalso; omega)
      | (refine H _ ?_
         first | rfl | omega)
    · first
      | (exfalso; omega)
      | (refine H _ ?_
         first | rfl | omega)
theorem S_X5_actsOf {d b : Nat} {h0 h : PH} {EP : Nat → Int → Int} {Q : Int → PH → Prop} {X : Nat → PH → Prop} {p k : Int} (M : Px b h0 h EP) (hp : 0 ≤ p ∧ p < 6) (hkx : 0 ≤ k ∧ k < 8) (H : ∀ x : Int, x = (EP 8 (p * 8 + k)) → Q x h) : RUN GQ (d + 1) m_X5_actsOf [pA b, pI p, pI k] h Q X := by
  rw [e_X5_actsOf]
  refine WP.of (RUN.mono GQ _) (cuts := []) (n := 400) (v_X5_actsOf_0 _ _ _ _ _ _ _ ?_)
  refine ⟨ir (by omega) (by omega), fun c8 => ?_, fun c8 => ?_⟩
  · first
    | (exfalso; omega)
    | (refine H _ ?_
       first | rfl | omega)
  · refine ⟨Bx.k M 0 (by decide) rfl, ?_⟩
    try rw [show hr h b 3 = b + 8 from Bx.r M 0 3 8 (by decide)]
    refine Bx.al M 8 48 20 (by decide) rfl (by decide) rfl (fun el16 => ?_)
    refine ⟨ir (by omega) (by omega), ir (by omega) (by omega), fun c17 => ?_, fun c17 => ?_⟩
    · refine ⟨Bx.k M 0 (by decide) rfl, ?_⟩
      try rw [show hr h b 3 = b + 8 from Bx.r M 0 3 8 (by decide)]
      refine Bx.ld M 8 48 (by decide) rfl rfl (by omega) (by omega) (fun er => ?_)
      try rw [er]
      clear er
      first
      | (exfalso; omega)
      | (refine H _ ?_
         first | rfl | omega)
    · first
      | (exfalso; omega)
      | (refine H _ ?_
         first | rfl | omega)
theorem S_X5_actPart {d b : Nat} {h0 h : PH} {EP : Nat → Int → Int} {Q : Int → PH → Prop} {X : Nat → PH → Prop} {p k a w : Int} (M : Px b h0 h EP) (hp : 0 ≤ p ∧ p < 6) (hkx : 0 ≤ k ∧ k < 8) (ha : 0 ≤ a ∧ a < 4) (hw : 0 ≤ w ∧ w < 4) (H : ∀ x : Int, x = (EP 9 (((p * 8 + k) * 4 + a) * 4 + w)) → Q x h) : RUN GQ (d + 1) m_X5_actPart [pA b, pI p, pI k, pI a, pI w] h Q X := by
  rw [e_X5_actPart]
  refine WP.of (RUN.mono GQ _) (cuts := []) (n := 400) (v_X5_actPart_0 _ _ _ _ _ _ _ _ _ ?_)
  refine ⟨ir (by omega) (by omega), fun c19 => ?_, fun c19 => ?_⟩
  · first
    | (exfalso; omega)
    | (refine H _ ?_
       first | rfl | omega)
  · refine ⟨Bx.k M 0 (by decide) rfl, ?_⟩
    try rw [show hr h b 4 = b + 9 from Bx.r M 0 4 9 (by decide)]
    refine Bx.al M 9 768 20 (by decide) rfl (by decide) rfl (fun el28 => ?_)
    refine ⟨ir (by omega) (by omega), ir (by omega) (by omega), fun c29 => ?_, fun c29 => ?_⟩
    · refine ⟨Bx.k M 0 (by decide) rfl, ?_⟩
      try rw [show hr h b 4 = b + 9 from Bx.r M 0 4 9 (by decide)]
      refine Bx.ld M 9 768 (by decide) rfl rfl (by omega) (by omega) (fun er => ?_)
      try rw [er]
      clear er
      first
      | (exfalso; omega)
      | (refine H _ ?_
         first | rfl | omega)
    · first
      | (exfalso; omega)
      | (refine H _ ?_
         first | rfl | omega)
