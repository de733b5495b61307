/-! the class's hall: a tick (written by wip/whole/tools/eng.py) -/
section VCS
variable {call : PC} {mc ms fr : Nat} {Q : Int → PH → Prop} {X : Nat → PH → Prop} {K : PK}
set_option maxRecDepth 100000 in
theorem v_X0_workOnTop_0 (a0 : Nat) (a1 : Nat) (i2 : Int) (z3 : Option PV) (z4 : Option PV) (z5 : Option PV) (z6 : Option PV) (z7 : Option PV) (h : PH) (c s : Nat) (H : hk h a0 = 1 ∧ hk h (hr h a0 6) = 2 ∧ call m_X1_sizeOf [pA (hr h a0 6), pI i2] h (fun x1 h1 =>
 InR (x1 - 1) ∧ ((x1 - 1) < 0 →
 Q 0 h1) ∧
(0 ≤ (x1 - 1) →
 hk h1 a0 = 1 ∧ hk h1 (hr h1 a0 6) = 2 ∧ call m_X1_part [pA (hr h1 a0 6), pI i2, pI (x1 - 1), pI 6] h1 (fun x2 h2 =>
 hk h2 a0 = 1 ∧ hk h2 (hr h2 a0 6) = 2 ∧ call m_X1_put [pA (hr h2 a0 6), pI i2, pI (x1 - 1), pI 6, pI (x2 - 1)] h2 (fun _ h3 =>
 InR (x2 - 1) ∧ (0 < (x2 - 1) →
 Q 0 h3) ∧
((x2 - 1) ≤ 0 →
 hk h3 a0 = 1 ∧ hk h3 (hr h3 a0 6) = 2 ∧ call m_X1_part [pA (hr h3 a0 6), pI i2, pI (x1 - 1), pI 1] h3 (fun x4 h4 =>
 hk h4 a0 = 1 ∧ hk h4 (hr h4 a0 6) = 2 ∧ call m_X1_part [pA (hr h4 a0 6), pI i2, pI (x1 - 1), pI 3] h4 (fun x5 h5 =>
 hk h5 a0 = 1 ∧ call m_X0_tire [pA a0, pI i2, pI x4] h5 (fun _ h6 =>
 hk h6 a0 = 1 ∧ hk h6 a0 = 1 ∧ call m_X0_endSignal [pA a0, pA (hr h6 a0 6), pI i2, pI (x1 - 1), pI 0] h6 (fun _ h7 =>
 K 95 [some (pA a0), some (pA a1), some (pI i2), some (pI (x1 - 1)), some (pI (x2 - 1)), some (pI x4), some (pI x5), some (pI 0)] [] h7 c s) X) X) X) X)) X) X)) X) : wpc k_X0_workOnTop [] call mc ms fr Q X [95] K 400 (pto 0 k_X0_workOnTop) [some (pA a0), some (pA a1), some (pI i2), z3, z4, z5, z6, z7] [] h c s :=
  H
set_option maxRecDepth 100000 in
theorem v_X0_workOnTop_95 (a0 : Nat) (a1 : Nat) (i2 : Int) (i3 : Int) (i4 : Int) (i5 : Int) (i6 : Int) (i7 : Int) (h : PH) (c s : Nat) (H : hk h a1 = 6 ∧ call m_X5_actsOf [pA a1, pI i2, pI i5] h (fun x1 h1 =>
 InR i7 ∧ InR x1 ∧ (i7 < x1 →
 hk h1 a0 = 1 ∧ call m_X0_doAct [pA a0, pA a1, pI i2, pI i5, pI i7, pI i6] h1 (fun _ h2 =>
 K 95 [some (pA a0), some (pA a1), some (pI i2), some (pI i3), some (pI i4), some (pI i5), some (pI i6), some (pI (i7 + 1))] [] h2 c s) X) ∧
(x1 ≤ i7 →
 Q 0 h1)) X) : wpc k_X0_workOnTop [] call mc ms fr Q X [95] K 400 (pto 95 k_X0_workOnTop) [some (pA a0), some (pA a1), some (pI i2), some (pI i3), some (pI i4), some (pI i5), some (pI i6), some (pI i7)] [] h c s :=
  H
set_option maxRecDepth 100000 in
theorem v_X0_passTick_0 (a0 : Nat) (a1 : Nat) (z2 : Option PV) (z3 : Option PV) (h : PH) (c s : Nat) (H : hk h a0 = 1 ∧ hk h a0 = 1 ∧ ∀ h1, h1 = hsi h a0 10 ((hi h a0 10) + 1) →
 hk h1 a0 = 1 ∧ (hk h1 (hr h1 a0 0) = 20 ∨ hk h1 (hr h1 a0 0) = 26) ∧ (0 ≤ (2 : Int) ∧ (2 : Int) < (hl h1 (hr h1 a0 0) : Int)) ∧ InR (hi h1 (hr h1 a0 0) (Int.toNat (2 : Int))) ∧ (0 < (hi h1 (hr h1 a0 0) (Int.toNat (2 : Int))) →
 hk h1 a0 = 1 ∧ InR (hi h1 a0 10) ∧ InR (hi h1 (hr h1 a0 0) (Int.toNat (2 : Int))) ∧ (hi h1 (hr h1 a0 0) (Int.toNat (2 : Int))) ≠ 0 ∧ InR (Int.tmod (hi h1 a0 10) (hi h1 (hr h1 a0 0) (Int.toNat (2 : Int)))) ∧ ((Int.tmod (hi h1 a0 10) (hi h1 (hr h1 a0 0) (Int.toNat (2 : Int)))) = 0 →
 hk h1 a0 = 1 ∧ call m_X0_recover [pA a0] h1 (fun _ h2 =>
 K 36 [some (pA a0), some (pA a1), some (pI (hi h1 (hr h1 a0 0) (Int.toNat (2 : Int)))), some (pI 0)] [] h2 c s) X) ∧
((Int.tmod (hi h1 a0 10) (hi h1 (hr h1 a0 0) (Int.toNat (2 : Int)))) ≠ 0 →
 K 36 [some (pA a0), some (pA a1), some (pI (hi h1 (hr h1 a0 0) (Int.toNat (2 : Int)))), some (pI 0)] [] h1 c s)) ∧
((hi h1 (hr h1 a0 0) (Int.toNat (2 : Int))) ≤ 0 →
 K 36 [some (pA a0), some (pA a1), some (pI (hi h1 (hr h1 a0 0) (Int.toNat (2 : Int)))), some (pI 0)] [] h1 c s)) : wpc k_X0_passTick [] call mc ms fr Q X [36] K 400 (pto 0 k_X0_passTick) [some (pA a0), some (pA a1), z2, z3] [] h c s :=
  H
set_option maxRecDepth 100000 in
theorem v_X0_passTick_36 (a0 : Nat) (a1 : Nat) (i2 : Int) (i3 : Int) (h : PH) (c s : Nat) (H : hk h a1 = 6 ∧ hk h (hr h a1 1) = 3 ∧ InR i3 ∧ InR (hi h (hr h a1 1) 2) ∧ (i3 < (hi h (hr h a1 1) 2) →
 hk h a0 = 1 ∧ call m_X0_loseAged [pA a0, pI i3] h (fun _ h1 =>
 hk h1 a0 = 1 ∧ call m_X0_beginNext [pA a0, pA a1, pI i3] h1 (fun _ h2 =>
 hk h2 a0 = 1 ∧ call m_X0_workOnTop [pA a0, pA a1, pI i3] h2 (fun _ h3 =>
 K 36 [some (pA a0), some (pA a1), some (pI i2), some (pI (i3 + 1))] [] h3 c s) X) X) X) ∧
((hi h (hr h a1 1) 2) ≤ i3 →
 Q 0 h)) : wpc k_X0_passTick [] call mc ms fr Q X [36] K 400 (pto 36 k_X0_passTick) [some (pA a0), some (pA a1), some (pI i2), some (pI i3)] [] h c s :=
  H
end VCS
theorem L_X0_workOnTop_95 {d b : Nat} {h0 : PH} {Q : Int → PH → Prop} {X : Nat → PH → Prop} {q : Nat} {EP D : Nat → Int → Int} {p : Int} {tp lf kd v : Int} (V : PIv D) (L : Px q h0 h0 EP) (PR : PRr EP D) (hd0 : q + 10 ≤ b ∨ b + 14 ≤ q) (hp : 0 ≤ p ∧ p < D 0 4) (hkd : 0 ≤ kd ∧ kd < 8) (hv : 0 ≤ v ∧ v < 1000) : ∀ (n : Nat) (k : Int) (E : Nat → Int → Int) (s : Int → Int) (h : PH) (N : Int), (Hx b h0 h E) → (HR E (D 0 2) (D 0 3) s) → (HI (D 0 3) (D 0 4) (D 0 2) N s) → (0 ≤ k) → (k + n = D 4 (8 * p + kd)) → (N + 13 * n ≤ 1999000100) → (∀ (x : Int) h' E', x = 0 → Hx b h0 h' E' → HR E' (D 0 2) (D 0 3) (e_acl D p (8 * p + kd) v n k s) → Q x h') → WP k_X0_workOnTop [] (RUN GQ (d + 4)) 0 0 (d + 5) Q X 95 [some (pA b), some (pA q), some (pI p), some (pI tp), some (pI lf), some (pI kd), some (pI v), some (pI k)] [] h 0 0 := by
  intro n
  induction n with
  | zero =>
    intro k E s h N M R I hk0 hn0 hN H
    obtain ⟨v2, v3, v4, vh⟩ := id V
    have hp6 : 0 ≤ p ∧ p < 6 := by omega
    have h48 : 0 ≤ 8 * p + kd ∧ 8 * p + kd < 48 := by omega
    have h4 := (vh _ h48.1 h48.2).2.1
    have px0 : EP 8 (p * 8 + kd) = D 4 (8 * p + kd) := by rw [show p * 8 + kd = 8 * p + kd by omega]; exact (PR.2.1 _ h48.1 h48.2).2
    refine WP.of (RUN.mono GQ _) (cuts := [95]) (n := 400) (v_X0_workOnTop_95 _ _ _ _ _ _ _ _ _ _ _ ?_)
    refine ⟨Bx.k (Bx.at L hd0 M) 0 (by decide) rfl, ?_⟩
    refine S_X5_actsOf (Bx.at L hd0 M) (by omega) (by omega) (fun x101 e101 => ?_)
    subst e101
    rw [px0]
    refine ⟨ir (by omega) (by omega), ir (by omega) (by omega), fun c104 => ?_, fun c104 => ?_⟩
    · exfalso; omega
    · first | (exfalso; omega) | (exact H _ _ _ rfl M R)
  | succ n ih =>
    intro k E s h N M R I hk0 hn0 hN H
    obtain ⟨v2, v3, v4, vh⟩ := id V
    have hp6 : 0 ≤ p ∧ p < 6 := by omega
    have h48 : 0 ≤ 8 * p + kd ∧ 8 * p + kd < 48 := by omega
    have h4 := (vh _ h48.1 h48.2).2.1
    have px0 : EP 8 (p * 8 + kd) = D 4 (8 * p + kd) := by rw [show p * 8 + kd = 8 * p + kd by omega]; exact (PR.2.1 _ h48.1 h48.2).2
    refine WP.of (RUN.mono GQ _) (cuts := [95]) (n := 400) (v_X0_workOnTop_95 _ _ _ _ _ _ _ _ _ _ _ ?_)
    refine ⟨Bx.k (Bx.at L hd0 M) 0 (by decide) rfl, ?_⟩
    refine S_X5_actsOf (Bx.at L hd0 M) (by omega) (by omega) (fun x101 e101 => ?_)
    subst e101
    rw [px0]
    refine ⟨ir (by omega) (by omega), ir (by omega) (by omega), fun c104 => ?_, fun c104 => ?_⟩
    · refine ⟨Bx.k M 0 (by decide) rfl, ?_⟩
      refine S_X0_doAct M R I V L PR hd0 (by omega) (by omega) (by omega) (by omega) (by omega) (fun x116 h116 E116 e116 M116 R116 => ?_)
      subst e116
      have I116 := does_HI (v := v) I V rfl rfl hp h48 ⟨hk0, by omega⟩ hv
      refine ih _ _ _ _ _ M116 R116 I116 (by omega) (by omega) (by omega) ?_
      exact H
    · exfalso; omega
theorem S_X0_workOnTop {d b : Nat} {h0 h : PH} {E : Nat → Int → Int} {Q : Int → PH → Prop} {X : Nat → PH → Prop} {N : Int} {q : Nat} {EP D : Nat → Int → Int} {s : Int → Int} {p : Int} (M : Hx b h0 h E) (R : HR E (D 0 2) (D 0 3) s) (I : HI (D 0 3) (D 0 4) (D 0 2) N s) (V : PIv D) (L : Px q h0 h0 EP) (PR : PRr EP D) (hd0 : q + 10 ≤ b ∨ b + 14 ≤ q) (hN : N ≤ 1999000000) (hp : 0 ≤ p ∧ p < D 0 4) (H : ∀ (x : Int) h' E', x = (0) → Hx b h0 h' E' → HR E' (D 0 2) (D 0 3) (e_wk D s p) → Q x h') : RUN GQ (d + 5) m_X0_workOnTop [pA b, pA q, pI p] h Q X := by
  obtain ⟨v2, v3, v4, vh⟩ := id V
  have hp6 : 0 ≤ p ∧ p < 6 := by omega
  have q0 := I.sn hp6
  rw [e_X0_workOnTop]
  refine WP.of (RUN.mono GQ _) (cuts := [95]) (n := 400) (v_X0_workOnTop_0 _ _ _ _ _ _ _ _ _ _ _ ?_)
  refine ⟨Bx.k M 0 (by decide) rfl, ?_⟩
  try rw [show hr h b 6 = b + 9 from Bx.r M 0 6 9 (by decide)]
  refine ⟨Bx.k M 9 (by decide) rfl, ?_⟩
  refine S_X1_sizeOf_sR M R I (by omega) (fun x5 e5 => ?_)
  subst e5
  refine ⟨ir (by omega) (by omega), fun c12 => ?_, fun c12 => ?_⟩
  · first
    | (exfalso; omega)
    | (first
       | exact H _ _ _ rfl M (hr_congr R (by rw [e_wk, if_pos (by omega)]))
       | exact H _ _ _ rfl M (hr_congr R1 (by rw [hwk, if_pos (by omega)])))
  · obtain ⟨tp, htp⟩ : ∃ tp, tp = s (511 + p) - 1 := ⟨_, rfl⟩
    rw [← htp]
    have se := I.se hp6 (i := tp) ⟨by omega, by omega⟩
    unfold SE at se
    have rs := R.sv hp6 (i := tp) ⟨by omega, by omega⟩
    have hqc : ∀ q, 0 ≤ q → q < 6 → s (115 + q) ≤ 13 := fun q a b => by have := I.qn ⟨a, b⟩; omega
    have hsc : ∀ q, 0 ≤ q → q < 6 → s (511 + q) ≤ 4 := fun q a b => (I.sn ⟨a, b⟩).2
    have ne : ∀ e, e ≠ 517 + 6 * (4 * p + tp) + 3 → (ups s (517 + 6 * (4 * p + tp) + 3) (sv s p tp 3 - 1)) e = s e := fun e h => ups_ne h
    have R1 : HR (dst E 11 ((p * 4 + tp) * 7 + 6) (sv s p tp 3 - 1)) (D 0 2) (D 0 3) (ups s (517 + 6 * (4 * p + tp) + 3) (sv s p tp 3 - 1)) := hr_lft R hqc hsc hp6 ⟨by omega, by omega⟩
    have k0 : (dst E 11 ((p * 4 + tp) * 7 + 6) (sv s p tp 3 - 1)) 11 ((p * 4 + tp) * 7 + 0) = sv s p tp 0 := (dst_ne (by omega)).trans rs.1
    have k1 : (dst E 11 ((p * 4 + tp) * 7 + 6) (sv s p tp 3 - 1)) 11 ((p * 4 + tp) * 7 + 1) = sv s p tp 1 := (dst_ne (by omega)).trans rs.2.1
    have k3 : (dst E 11 ((p * 4 + tp) * 7 + 6) (sv s p tp 3 - 1)) 11 ((p * 4 + tp) * 7 + 3) = sv s p tp 4 := (dst_ne (by omega)).trans rs.2.2.1
    have hwk := e_wk_some (D := D) (s := s) (p := p) (tp := tp) (by omega) htp
    refine ⟨Bx.k M 0 (by decide) rfl, ?_⟩
    try rw [show hr h b 6 = b + 9 from Bx.r M 0 6 9 (by decide)]
    refine ⟨Bx.k M 9 (by decide) rfl, ?_⟩
    refine S_X1_part_sR M R I (by omega) (by omega) (by omega) (by omega) (fun x24 e24 => ?_)
    subst e24
    rw [svc_6]
    refine ⟨Bx.k M 0 (by decide) rfl, ?_⟩
    try rw [show hr h b 6 = b + 9 from Bx.r M 0 6 9 (by decide)]
    refine ⟨Bx.k M 9 (by decide) rfl, ?_⟩
    refine S_X1_put_s M (by exact R.r9) (by omega) (by omega) (by omega) (fun x41 h41 e41 M41 => ?_)
    subst e41
    refine ⟨ir (by omega) (by omega), fun c46 => ?_, fun c46 => ?_⟩
    · first
      | (exfalso; omega)
      | (first
         | exact H _ _ _ rfl M41 (hr_congr R (by rw [e_wk, if_pos (by omega)]))
         | exact H _ _ _ rfl M41 (hr_congr R1 (by rw [hwk, if_pos (by omega)])))
    · have t1 : td (ups s (517 + 6 * (4 * p + tp) + 3) (sv s p tp 3 - 1)) p (sv s p tp 1) = td s p (sv s p tp 1) := ne _ (by omega)
      have t2 : kn (ups s (517 + 6 * (4 * p + tp) + 3) (sv s p tp 3 - 1)) (sv s p tp 1) 1 = kn s (sv s p tp 1) 1 := ne _ (by omega)
      have t3 := I.td hp6 (k := sv s p tp 1) ⟨se.2.1.1, by omega⟩
      have t4 := (I.kn (k := sv s p tp 1) ⟨se.2.1.1, by omega⟩).2.1
      have v1 : sv (ups s (517 + 6 * (4 * p + tp) + 3) (sv s p tp 3 - 1)) p tp 1 = sv s p tp 1 := ne _ (by omega)
      have n5 : (ups s (517 + 6 * (4 * p + tp) + 3) (sv s p tp 3 - 1)) (511 + p) = s (511 + p) := ne _ (by omega)
      have n2 : (ups s (517 + 6 * (4 * p + tp) + 3) (sv s p tp 3 - 1)) 2 = s 2 := ne _ (by omega)
      have e2 := I.e2
      have e1 := I.e1
      have h48 : 0 ≤ 8 * p + sv s p tp 1 ∧ 8 * p + sv s p tp 1 < 48 := by omega
      have px := (PR.2.1 _ h48.1 h48.2).2
      have h4 := (vh _ h48.1 h48.2).2.1
      have J : HI (D 0 3) (D 0 4) (D 0 2) (N + 1) (e_wk0 (ups s (517 + 6 * (4 * p + tp) + 3) (sv s p tp 3 - 1)) p (517 + 6 * (4 * p + tp))) := (by have := wk0_HI (r := (ups s (517 + 6 * (4 * p + tp) + 3) (sv s p tp 3 - 1))) I (by rw [← htp]; exact ne) (by omega) (by omega) hp6 (by omega) (by rw [← htp]; exact se.1) (by rw [← htp]; exact se.2.1); rw [← htp] at this; exact this)
      have R2 := cend_h (p := p) (t' := tp) (kd := sv s p tp 1) R1 (fun q a b => by rw [ne _ (by omega)]; exact hqc q a b) (fun q a b => by rw [ne _ (by omega)]; exact hsc q a b) (by rw [n2]; exact e2.1) hp6 (by rw [n5]; omega) (by rw [n5]; exact htp) v1.symm ⟨se.2.1.1, by omega⟩ rfl
      refine ⟨Bx.k M41 0 (by decide) rfl, ?_⟩
      try rw [show hr h41 b 6 = b + 9 from Bx.r M41 0 6 9 (by decide)]
      refine ⟨Bx.k M41 9 (by decide) rfl, ?_⟩
      refine S_X1_part_s M41 (by exact R1.r9) (by omega) (by omega) (by omega) (fun x57 e57 => ?_)
      subst e57
      rw [k1]
      refine ⟨Bx.k M41 0 (by decide) rfl, ?_⟩
      try rw [show hr h41 b 6 = b + 9 from Bx.r M41 0 6 9 (by decide)]
      refine ⟨Bx.k M41 9 (by decide) rfl, ?_⟩
      refine S_X1_part_s M41 (by exact R1.r9) (by omega) (by omega) (by omega) (fun x69 e69 => ?_)
      subst e69
      rw [k3]
      refine ⟨Bx.k M41 0 (by decide) rfl, ?_⟩
      refine S_X0_tire M41 R1 (by omega) (by omega) (by omega) (by rw [t1]; exact t3) (by rw [t2]; exact t4) (fun x78 h78 e78 M78 => ?_)
      subst e78
      refine ⟨Bx.k M78 0 (by decide) rfl, ?_⟩
      try rw [show hr h78 b 6 = b + 9 from Bx.r M78 0 6 9 (by decide)]
      refine ⟨Bx.k M78 0 (by decide) rfl, ?_⟩
      refine S_X0_endSignal_s M78 (by exact R1.r9) (by omega) (by show 0 ≤ tp ∧ tp < E 10 p; rw [R.sn hp6]; omega) (by show E 10 p ≤ 4; rw [R.sn hp6]; omega) (by omega) (by show 0 ≤ E 0 9 ∧ E 0 9 ≤ 2000000000; rw [R.fl.1]; omega) (by show InR ((dst E 11 ((p * 4 + tp) * 7 + 6) (sv s p tp 3 - 1)) 11 ((p * 4 + tp) * 7 + 0)); rw [k0]; exact ir (by omega) (by omega)) (by show InR (E 0 13); rw [R.fl.2.2.2.2.1]; exact I.ho.2.2.2.1) (fun x89 h89 e89 M89 => ?_)
      subst e89
      refine L_X0_workOnTop_95 V L PR hd0 hp (by omega) (by omega) ((D 4 (8 * p + sv s p tp 1)).toNat) _ _ _ _ _ M89 R2 J (by omega) (by omega) (by omega) ?_
      refine fun x h' E' e M R => H x h' E' e M (hr_congr R ?_)
      rw [hwk, if_neg (by omega)]
theorem L_X0_passTick_36 {d b : Nat} {h0 : PH} {Q : Int → PH → Prop} {X : Nat → PH → Prop} {q : Nat} {EP D : Nat → Int → Int} {rs : Int} (V : PIv D) (L : Px q h0 h0 EP) (PR : PRr EP D) (hd0 : q + 10 ≤ b ∨ b + 14 ≤ q) : ∀ (n : Nat) (p : Int) (E : Nat → Int → Int) (s : Int → Int) (h : PH) (N : Int), (Hx b h0 h E) → (HR E (D 0 2) (D 0 3) s) → (HI (D 0 3) (D 0 4) (D 0 2) N s) → (0 ≤ p) → (p + n = D 0 4) → (N + 80 * n ≤ 1998990000) → (∀ (x : Int) h' E', x = 0 → Hx b h0 h' E' → HR E' (D 0 2) (D 0 3) (e_prl D n p s) → Q x h') → WP k_X0_passTick [] (RUN GQ (d + 5)) 0 0 (d + 6) Q X 36 [some (pA b), some (pA q), some (pI rs), some (pI p)] [] h 0 0 := by
  intro n
  induction n with
  | zero =>
    intro p E s h N M R I hk0 hn0 hN H
    obtain ⟨v2, v3, v4, vh⟩ := id V
    refine WP.of (RUN.mono GQ _) (cuts := [36]) (n := 400) (v_X0_passTick_36 _ _ _ _ _ _ _ ?_)
    refine ⟨Bx.k (Bx.at L hd0 M) 0 (by decide) rfl, ?_⟩
    try rw [show hr h q 1 = q + 4 from Bx.r (Bx.at L hd0 M) 0 1 4 (by decide)]
    refine ⟨Bx.k (Bx.at L hd0 M) 4 (by decide) rfl, ?_⟩
    try rw [show hi h (q + 4) 2 = _ from Bx.f2 (Bx.at L hd0 M) 4 (by decide)]
    rw [PR.1.2]
    refine ⟨ir (by omega) (by omega), ir (by omega) (by omega), fun c44 => ?_, fun c44 => ?_⟩
    · exfalso; omega
    · exact H _ _ _ rfl M R
  | succ n ih =>
    intro p E s h N M R I hk0 hn0 hN H
    obtain ⟨v2, v3, v4, vh⟩ := id V
    refine WP.of (RUN.mono GQ _) (cuts := [36]) (n := 400) (v_X0_passTick_36 _ _ _ _ _ _ _ ?_)
    refine ⟨Bx.k (Bx.at L hd0 M) 0 (by decide) rfl, ?_⟩
    try rw [show hr h q 1 = q + 4 from Bx.r (Bx.at L hd0 M) 0 1 4 (by decide)]
    refine ⟨Bx.k (Bx.at L hd0 M) 4 (by decide) rfl, ?_⟩
    try rw [show hi h (q + 4) 2 = _ from Bx.f2 (Bx.at L hd0 M) 4 (by decide)]
    rw [PR.1.2]
    refine ⟨ir (by omega) (by omega), ir (by omega) (by omega), fun c44 => ?_, fun c44 => ?_⟩
    · refine ⟨Bx.k M 0 (by decide) rfl, ?_⟩
      refine S_X0_loseAged M R I V (by omega) (by omega) (fun x49 h49 E49 e49 M49 R49 => ?_)
      subst e49
      have I49 := ages_HI (p := p) I v3 v4.1 (by omega)
      refine ⟨Bx.k M49 0 (by decide) rfl, ?_⟩
      refine S_X0_beginNext M49 R49 I49 V L PR hd0 (by omega) (by omega) (fun x55 h55 E55 e55 M55 R55 => ?_)
      subst e55
      have I55 := bg_HI (p := p) I49 V rfl v4 (by omega)
      refine ⟨Bx.k M55 0 (by decide) rfl, ?_⟩
      refine S_X0_workOnTop M55 R55 I55 V L PR hd0 (by omega) (by omega) (fun x61 h61 E61 e61 M61 R61 => ?_)
      subst e61
      have I61 := wk_HI (p := p) I55 V rfl rfl (by omega)
      refine ih _ _ _ _ _ M61 R61 I61 (by omega) (by omega) (by omega) ?_
      exact H
    · exfalso; omega
theorem S_X0_passTick {d b : Nat} {h0 h : PH} {E : Nat → Int → Int} {Q : Int → PH → Prop} {X : Nat → PH → Prop} {N : Int} {q : Nat} {EP D : Nat → Int → Int} {s : Int → Int} (M : Hx b h0 h E) (R : HR E (D 0 2) (D 0 3) s) (I : HI (D 0 3) (D 0 4) (D 0 2) N s) (V : PIv D) (L : Px q h0 h0 EP) (PR : PRr EP D) (hd0 : q + 10 ≤ b ∨ b + 14 ≤ q) (hN : N ≤ 1998900000)  (H : ∀ (x : Int) h' E', x = (0) → Hx b h0 h' E' → HR E' (D 0 2) (D 0 3) (e_tick D s) → Q x h') : RUN GQ (d + 6) m_X0_passTick [pA b, pA q] h Q X := by
  obtain ⟨v2, v3, v4, vh⟩ := id V
  have qo := I.ho
  unfold HIo at qo
  have e0 := I.e0
  have R1 := hr_time R
  have I1 := time_HI I v3.1 v4.1
  have u12 : ups s 0 (s 0 + 1) 12 = s 12 := ups_ne (by omega)
  have u0 : ups s 0 (s 0 + 1) 0 = s 0 + 1 := ups_eq _ _ _
  have r12 : dst E 0 10 (E 0 10 + 1) 1 2 = s 12 := R.set (e := 2) ⟨by omega, by omega⟩
  have tm := tmN (x := s 0 + 1) (y := s 12) (by omega) (by omega)
  rw [e_X0_passTick]
  refine WP.of (RUN.mono GQ _) (cuts := [36]) (n := 400) (v_X0_passTick_0 _ _ _ _ _ _ _ ?_)
  refine ⟨Bx.k M 0 (by decide) rfl, ?_⟩
  try rw [show hi h b 10 = _ from Bx.f10 M 0 (by decide)]
  refine Bx.pf10 M 0 1 (by decide) rfl (fun h7 M7 => ?_)
  refine ⟨Bx.k M7 0 (by decide) rfl, ?_⟩
  try rw [show hr h7 b 0 = b + 1 from Bx.r M7 0 0 1 (by decide)]
  refine Bx.ld M7 1 4 (by decide) rfl rfl (by omega) (by omega) (fun er => ?_)
  try rw [er]
  clear er
  rw [r12]
  refine ⟨ir (by omega) (by omega), fun c18 => ?_, fun c18 => ?_⟩
  · refine ⟨Bx.k M7 0 (by decide) rfl, ?_⟩
    try rw [show hi h7 b 10 = _ from Bx.f10 M7 0 (by decide)]
    rw [dst_eq, R.fl.2.1]
    refine ⟨ir (by omega) (by omega), ir (by omega) (by omega), (by omega), ?_⟩
    refine ⟨ir (by omega) (by omega), fun c27 => ?_, fun c27 => ?_⟩
    · refine ⟨Bx.k M7 0 (by decide) rfl, ?_⟩
      refine S_X0_recover M7 R1 I1 V (by omega) (fun x31 h31 E31 e31 M31 R31 => ?_)
      subst e31
      have I31 := rsl_HI v3.1 v4.1 48 0 _ I1 (by omega) (by omega)
      refine L_X0_passTick_36 V L PR hd0 ((D 0 4).toNat) _ _ _ _ _ M31 R31 I31 (by omega) (by omega) (by omega) ?_
      refine fun x h' E' e M R => H x h' E' e M (hr_congr R ?_)
      simp only [e_tick, u0, u12]
      first | rw [if_pos c27] | rw [if_neg c27] | (exfalso; omega)
    · refine L_X0_passTick_36 V L PR hd0 ((D 0 4).toNat) _ _ _ _ _ M7 R1 I1 (by omega) (by omega) (by omega) ?_
      refine fun x h' E' e M R => H x h' E' e M (hr_congr R ?_)
      simp only [e_tick, u0, u12]
      first | rw [if_pos c27] | rw [if_neg c27] | (exfalso; omega)
  · refine L_X0_passTick_36 V L PR hd0 ((D 0 4).toNat) _ _ _ _ _ M7 R1 I1 (by omega) (by omega) (by omega) ?_
    refine fun x h' E' e M R => H x h' E' e M (hr_congr R ?_)
    simp only [e_tick, u0, u12]
    first | rw [if_pos c27] | rw [if_neg c27] | (exfalso; omega)
