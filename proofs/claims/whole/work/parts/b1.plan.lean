/-! the class's plan (2) (written by wip/whole/tools/eng.py) -/
section VCS
variable {call : PC} {mc ms fr : Nat} {Q : Int → PH → Prop} {X : Nat → PH → Prop} {K : PK}
set_option maxRecDepth 100000 in
theorem v_X5_handlersOf_0 (a0 : Nat) (i1 : Int) (z2 : Option PV) (z3 : Option PV) (h : PH) (c s : Nat) (H : K 4 [some (pA a0), some (pI i1), some (pI 0), some (pI 0)] [] h c s) : wpc k_X5_handlersOf [] call mc ms fr Q X [4] K 400 (pto 0 k_X5_handlersOf) [some (pA a0), some (pI i1), z2, z3] [] h c s :=
  H
set_option maxRecDepth 100000 in
theorem v_X5_handlersOf_4 (a0 : Nat) (i1 : Int) (i2 : Int) (i3 : Int) (h : PH) (c s : Nat) (H : hk h a0 = 6 ∧ hk h (hr h a0 0) = 3 ∧ InR i3 ∧ InR (hi h (hr h a0 0) 2) ∧ (i3 < (hi h (hr h a0 0) 2) →
 hk h a0 = 6 ∧ call m_X5_ticksOf [pA a0, pI i1, pI i3] h (fun x1 h1 =>
 InR x1 ∧ (0 < x1 →
 K 4 [some (pA a0), some (pI i1), some (pI (i2 + 1)), some (pI (i3 + 1))] [] h1 c s) ∧
(x1 ≤ 0 →
 K 4 [some (pA a0), some (pI i1), some (pI i2), some (pI (i3 + 1))] [] h1 c s)) X) ∧
((hi h (hr h a0 0) 2) ≤ i3 →
 Q i2 h)) : wpc k_X5_handlersOf [] call mc ms fr Q X [4] K 400 (pto 4 k_X5_handlersOf) [some (pA a0), some (pI i1), some (pI i2), some (pI i3)] [] h c s :=
  H
set_option maxRecDepth 100000 in
theorem v_X5_handlersInAll_0 (a0 : Nat) (z1 : Option PV) (z2 : Option PV) (h : PH) (c s : Nat) (H : K 4 [some (pA a0), some (pI 0), some (pI 0)] [] h c s) : wpc k_X5_handlersInAll [] call mc ms fr Q X [4] K 400 (pto 0 k_X5_handlersInAll) [some (pA a0), z1, z2] [] h c s :=
  H
set_option maxRecDepth 100000 in
theorem v_X5_handlersInAll_4 (a0 : Nat) (i1 : Int) (i2 : Int) (h : PH) (c s : Nat) (H : hk h a0 = 6 ∧ hk h (hr h a0 1) = 3 ∧ InR i2 ∧ InR (hi h (hr h a0 1) 2) ∧ (i2 < (hi h (hr h a0 1) 2) →
 hk h a0 = 6 ∧ call m_X5_handlersOf [pA a0, pI i2] h (fun x1 h1 =>
 K 4 [some (pA a0), some (pI (i1 + x1)), some (pI (i2 + 1))] [] h1 c s) X) ∧
((hi h (hr h a0 1) 2) ≤ i2 →
 Q i1 h)) : wpc k_X5_handlersInAll [] call mc ms fr Q X [4] K 400 (pto 4 k_X5_handlersInAll) [some (pA a0), some (pI i1), some (pI i2)] [] h c s :=
  H
set_option maxRecDepth 100000 in
theorem v_X5_raises_0 (a0 : Nat) (i1 : Int) (i2 : Int) (z3 : Option PV) (z4 : Option PV) (h : PH) (c s : Nat) (H : K 2 [some (pA a0), some (pI i1), some (pI i2), some (pI 0), z4] [] h c s) : wpc k_X5_raises [] call mc ms fr Q X [2, 16] K 400 (pto 0 k_X5_raises) [some (pA a0), some (pI i1), some (pI i2), z3, z4] [] h c s :=
  H
set_option maxRecDepth 100000 in
theorem v_X5_raises_2 (a0 : Nat) (i1 : Int) (i2 : Int) (i3 : Int) (z4 : Option PV) (h : PH) (c s : Nat) (H : hk h a0 = 6 ∧ hk h (hr h a0 0) = 3 ∧ InR i3 ∧ InR (hi h (hr h a0 0) 2) ∧ (i3 < (hi h (hr h a0 0) 2) →
 K 16 [some (pA a0), some (pI i1), some (pI i2), some (pI i3), some (pI 0)] [] h c s) ∧
((hi h (hr h a0 0) 2) ≤ i3 →
 ((0 : Int) = 0 ∨ (0 : Int) = 1) ∧ Q 0 h)) : wpc k_X5_raises [] call mc ms fr Q X [2, 16] K 400 (pto 2 k_X5_raises) [some (pA a0), some (pI i1), some (pI i2), some (pI i3), z4] [] h c s :=
  H
set_option maxRecDepth 100000 in
theorem v_X5_raises_16 (a0 : Nat) (i1 : Int) (i2 : Int) (i3 : Int) (i4 : Int) (h : PH) (c s : Nat) (H : hk h a0 = 6 ∧ call m_X5_actsOf [pA a0, pI i1, pI i3] h (fun x1 h1 =>
 InR i4 ∧ InR x1 ∧ (i4 < x1 →
 hk h1 a0 = 6 ∧ call m_X5_actPart [pA a0, pI i1, pI i3, pI i4, pI 0] h1 (fun x2 h2 =>
 InR x2 ∧ (x2 = 0 →
 hk h2 a0 = 6 ∧ call m_X5_actPart [pA a0, pI i1, pI i3, pI i4, pI 1] h2 (fun x3 h3 =>
 InR x3 ∧ InR i2 ∧ (x3 = i2 →
 ((1 : Int) = 0 ∨ (1 : Int) = 1) ∧ Q 1 h3) ∧
(x3 ≠ i2 →
 K 16 [some (pA a0), some (pI i1), some (pI i2), some (pI i3), some (pI (i4 + 1))] [] h3 c s)) X) ∧
(x2 ≠ 0 →
 K 16 [some (pA a0), some (pI i1), some (pI i2), some (pI i3), some (pI (i4 + 1))] [] h2 c s)) X) ∧
(x1 ≤ i4 →
 K 2 [some (pA a0), some (pI i1), some (pI i2), some (pI (i3 + 1)), some (pI i4)] [] h1 c s)) X) : wpc k_X5_raises [] call mc ms fr Q X [2, 16] K 400 (pto 16 k_X5_raises) [some (pA a0), some (pI i1), some (pI i2), some (pI i3), some (pI i4)] [] h c s :=
  H
end VCS
theorem L_X5_handlersOf_4 {d b : Nat} {h0 h : PH} {EP D : Nat → Int → Int} {Q : Int → PH → Prop} {X : Nat → PH → Prop} {p : Int} (M : Px b h0 h EP) (U : PT EP D) (V : PIv D) (hp : 0 ≤ p ∧ p < 6) : ∀ (n : Nat) (acc k : Int), (0 ≤ k) → (k + n = D 0 3) → (∀ x : Int, x = hofl D p n k acc → Q x h) → WP k_X5_handlersOf [] (RUN GQ (d + 1)) 0 0 (d + 2) Q X 4 [some (pA b), some (pI p), some (pI acc), some (pI k)] [] h 0 0 := by
  intro n
  induction n with
  | zero =>
    intro acc k hk0 hn0 H
    obtain ⟨v2, v3, v4, vh⟩ := id V
    refine WP.of (RUN.mono GQ _) (cuts := [4]) (n := 400) (v_X5_handlersOf_4 _ _ _ _ _ _ _ ?_)
    refine ⟨Bx.k M 0 (by decide) rfl, ?_⟩
    try rw [show hr h b 0 = b + 1 from Bx.r M 0 0 1 (by decide)]
    refine ⟨Bx.k M 1 (by decide) rfl, ?_⟩
    try rw [show hi h (b + 1) 2 = _ from Bx.f2 M 1 (by decide)]
    rw [U.k]
    refine ⟨ir (by omega) (by omega), ir (by omega) (by omega), fun c12 => ?_, fun c12 => ?_⟩
    · exfalso; omega
    · exact H _ rfl
  | succ n ih =>
    intro acc k hk0 hn0 H
    obtain ⟨v2, v3, v4, vh⟩ := id V
    have u1 := U.t hp (k := k) (by omega)
    have h3 := (vh (8 * p + k) (by omega) (by omega)).1
    refine WP.of (RUN.mono GQ _) (cuts := [4]) (n := 400) (v_X5_handlersOf_4 _ _ _ _ _ _ _ ?_)
    refine ⟨Bx.k M 0 (by decide) rfl, ?_⟩
    try rw [show hr h b 0 = b + 1 from Bx.r M 0 0 1 (by decide)]
    refine ⟨Bx.k M 1 (by decide) rfl, ?_⟩
    try rw [show hi h (b + 1) 2 = _ from Bx.f2 M 1 (by decide)]
    rw [U.k]
    refine ⟨ir (by omega) (by omega), ir (by omega) (by omega), fun c12 => ?_, fun c12 => ?_⟩
    · refine ⟨Bx.k M 0 (by decide) rfl, ?_⟩
      refine S_X5_ticksOf M (by omega) (by omega) (fun x18 e18 => ?_)
      subst e18
      rw [u1.1]
      refine ⟨ir (by omega) (by omega), fun c21 => ?_, fun c21 => ?_⟩
      · refine ih _ _ (by omega) (by omega) ?_
        have e : hofl D p (n + 1) k acc = hofl D p n (k + 1) (acc + (if 0 < D 3 (8 * p + k) then 1 else 0)) := rfl
        rw [e] at H
        first | (rw [if_pos (by omega)] at H; exact H) | (rw [if_neg (by omega)] at H; simp only [Int.add_zero] at H; exact H)
      · refine ih _ _ (by omega) (by omega) ?_
        have e : hofl D p (n + 1) k acc = hofl D p n (k + 1) (acc + (if 0 < D 3 (8 * p + k) then 1 else 0)) := rfl
        rw [e] at H
        first | (rw [if_pos (by omega)] at H; exact H) | (rw [if_neg (by omega)] at H; simp only [Int.add_zero] at H; exact H)
    · exfalso; omega
theorem S_X5_handlersOf {d b : Nat} {h0 h : PH} {EP D : Nat → Int → Int} {Q : Int → PH → Prop} {X : Nat → PH → Prop} {p : Int} (M : Px b h0 h EP) (U : PT EP D) (V : PIv D) (hp : 0 ≤ p ∧ p < 6) (H : ∀ x : Int, x = (hof D p) → Q x h) : RUN GQ (d + 2) m_X5_handlersOf [pA b, pI p] h Q X := by
  obtain ⟨v2, v3, v4, vh⟩ := id V
  rw [e_X5_handlersOf]
  refine WP.of (RUN.mono GQ _) (cuts := [4]) (n := 400) (v_X5_handlersOf_0 _ _ _ _ _ _ _ ?_)
  refine L_X5_handlersOf_4 M U V hp ((D 0 3).toNat) _ _ (by omega) (by omega) ?_
  exact H
theorem L_X5_handlersInAll_4 {d b : Nat} {h0 h : PH} {EP D : Nat → Int → Int} {Q : Int → PH → Prop} {X : Nat → PH → Prop} (M : Px b h0 h EP) (U : PT EP D) (V : PIv D) : ∀ (n : Nat) (acc p : Int), (0 ≤ p) → (p + n = D 0 4) → (∀ x : Int, x = hal D n p acc → Q x h) → WP k_X5_handlersInAll [] (RUN GQ (d + 2)) 0 0 (d + 3) Q X 4 [some (pA b), some (pI acc), some (pI p)] [] h 0 0 := by
  intro n
  induction n with
  | zero =>
    intro acc p hp0 hn0 H
    obtain ⟨v2, v3, v4, vh⟩ := id V
    refine WP.of (RUN.mono GQ _) (cuts := [4]) (n := 400) (v_X5_handlersInAll_4 _ _ _ _ _ _ ?_)
    refine ⟨Bx.k M 0 (by decide) rfl, ?_⟩
    try rw [show hr h b 1 = b + 4 from Bx.r M 0 1 4 (by decide)]
    refine ⟨Bx.k M 4 (by decide) rfl, ?_⟩
    try rw [show hi h (b + 4) 2 = _ from Bx.f2 M 4 (by decide)]
    rw [U.p]
    refine ⟨ir (by omega) (by omega), ir (by omega) (by omega), fun c12 => ?_, fun c12 => ?_⟩
    · exfalso; omega
    · exact H _ rfl
  | succ n ih =>
    intro acc p hp0 hn0 H
    obtain ⟨v2, v3, v4, vh⟩ := id V
    refine WP.of (RUN.mono GQ _) (cuts := [4]) (n := 400) (v_X5_handlersInAll_4 _ _ _ _ _ _ ?_)
    refine ⟨Bx.k M 0 (by decide) rfl, ?_⟩
    try rw [show hr h b 1 = b + 4 from Bx.r M 0 1 4 (by decide)]
    refine ⟨Bx.k M 4 (by decide) rfl, ?_⟩
    try rw [show hi h (b + 4) 2 = _ from Bx.f2 M 4 (by decide)]
    rw [U.p]
    refine ⟨ir (by omega) (by omega), ir (by omega) (by omega), fun c12 => ?_, fun c12 => ?_⟩
    · refine ⟨Bx.k M 0 (by decide) rfl, ?_⟩
      refine S_X5_handlersOf M U V (by omega) (fun x18 e18 => ?_)
      subst e18
      refine ih _ _ (by omega) (by omega) ?_
      exact H
    · exfalso; omega
theorem S_X5_handlersInAll {d b : Nat} {h0 h : PH} {EP D : Nat → Int → Int} {Q : Int → PH → Prop} {X : Nat → PH → Prop} (M : Px b h0 h EP) (U : PT EP D) (V : PIv D)  (H : ∀ x : Int, x = (hal D (D 0 4).toNat 0 0) → Q x h) : RUN GQ (d + 3) m_X5_handlersInAll [pA b] h Q X := by
  obtain ⟨v2, v3, v4, vh⟩ := id V
  rw [e_X5_handlersInAll]
  refine WP.of (RUN.mono GQ _) (cuts := [4]) (n := 400) (v_X5_handlersInAll_0 _ _ _ _ _ _ ?_)
  refine L_X5_handlersInAll_4 M U V ((D 0 4).toNat) _ _ (by omega) (by omega) ?_
  exact H
theorem L_X5_raises_16 {d b : Nat} {h0 h : PH} {EP D : Nat → Int → Int} {Q : Int → PH → Prop} {X : Nat → PH → Prop} {p k : Int} {j : Int} (M : Px b h0 h EP) (U : PT EP D) (V : PIv D) (hp : 0 ≤ p ∧ p < 6) (hkk : InR k) (hj : 0 ≤ j ∧ j < 8) : ∀ (n : Nat) (i : Int), (0 ≤ i) → (i + n = D 4 (8 * p + j)) → ((ral D (8 * p + j) k n i = 1 → Q 1 h) ∧ (ral D (8 * p + j) k n i = 0 → ∀ z4 : Option PV, WP k_X5_raises [] (RUN GQ (d + 1)) 0 0 (d + 2) Q X 2 [some (pA b), some (pI p), some (pI k), some (pI (j + 1)), z4] [] h 0 0)) → WP k_X5_raises [] (RUN GQ (d + 1)) 0 0 (d + 2) Q X 16 [some (pA b), some (pI p), some (pI k), some (pI j), some (pI i)] [] h 0 0 := by
  intro n
  induction n with
  | zero =>
    intro i hi0 hn0 H
    obtain ⟨v2, v3, v4, vh⟩ := id V
    have u1 := (U.t hp hj).2
    have hh := vh (8 * p + j) (by omega) (by omega)
    refine WP.of (RUN.mono GQ _) (cuts := [2, 16]) (n := 400) (v_X5_raises_16 _ _ _ _ _ _ _ _ ?_)
    refine ⟨Bx.k M 0 (by decide) rfl, ?_⟩
    refine S_X5_actsOf M (by omega) (by omega) (fun x21 e21 => ?_)
    subst e21
    rw [u1]
    refine ⟨ir (by omega) (by omega), ir (by omega) (by omega), fun c24 => ?_, fun c24 => ?_⟩
    · exfalso; omega
    · exact H.2 rfl _
  | succ n ih =>
    intro i hi0 hn0 H
    obtain ⟨v2, v3, v4, vh⟩ := id V
    have u1 := (U.t hp hj).2
    have hh := vh (8 * p + j) (by omega) (by omega)
    obtain ⟨a1, a2, a3, a4, a5⟩ := hh.2.2 i hi0 (by omega)
    have p0 := U.a hp hj (i := i) (w := 0) ⟨hi0, by omega⟩ (by omega)
    have p1 := U.a hp hj (i := i) (w := 1) ⟨hi0, by omega⟩ (by omega)
    rw [Int.add_zero (4 * (4 * (8 * p + j) + i))] at p0
    refine WP.of (RUN.mono GQ _) (cuts := [2, 16]) (n := 400) (v_X5_raises_16 _ _ _ _ _ _ _ _ ?_)
    refine ⟨Bx.k M 0 (by decide) rfl, ?_⟩
    refine S_X5_actsOf M (by omega) (by omega) (fun x21 e21 => ?_)
    subst e21
    rw [u1]
    refine ⟨ir (by omega) (by omega), ir (by omega) (by omega), fun c24 => ?_, fun c24 => ?_⟩
    · refine ⟨Bx.k M 0 (by decide) rfl, ?_⟩
      refine S_X5_actPart M (by omega) (by omega) (by omega) (by omega) (fun x33 e33 => ?_)
      subst e33
      rw [p0]
      refine ⟨ir (by omega) (by omega), fun c36 => ?_, fun c36 => ?_⟩
      · refine ⟨Bx.k M 0 (by decide) rfl, ?_⟩
        refine S_X5_actPart M (by omega) (by omega) (by omega) (by omega) (fun x45 e45 => ?_)
        subst e45
        rw [p1]
        refine ⟨ir (by omega) (by omega), ir (by omega) (by omega), fun c49 => ?_, fun c49 => ?_⟩
        · refine ⟨(by omega), ?_⟩
          exact H.1 (by rw [ral, if_pos (by omega)])
        · refine ih _ (by omega) (by omega) ?_
          rw [ral, if_neg (by omega)] at H
          exact H
      · refine ih _ (by omega) (by omega) ?_
        rw [ral, if_neg (by omega)] at H
        exact H
    · exfalso; omega
theorem L_X5_raises_2 {d b : Nat} {h0 h : PH} {EP D : Nat → Int → Int} {Q : Int → PH → Prop} {X : Nat → PH → Prop} {p k : Int} (M : Px b h0 h EP) (U : PT EP D) (V : PIv D) (hp : 0 ≤ p ∧ p < 6) (hkk : InR k) : ∀ (n : Nat) (j : Int) (z4 : Option PV), (0 ≤ j) → (j + n = D 0 3) → (∀ x : Int, x = rak D p k n j → Q x h) → WP k_X5_raises [] (RUN GQ (d + 1)) 0 0 (d + 2) Q X 2 [some (pA b), some (pI p), some (pI k), some (pI j), z4] [] h 0 0 := by
  intro n
  induction n with
  | zero =>
    intro j z4 hj0 hn0 H
    obtain ⟨v2, v3, v4, vh⟩ := id V
    refine WP.of (RUN.mono GQ _) (cuts := [2, 16]) (n := 400) (v_X5_raises_2 _ _ _ _ _ _ _ _ ?_)
    refine ⟨Bx.k M 0 (by decide) rfl, ?_⟩
    try rw [show hr h b 0 = b + 1 from Bx.r M 0 0 1 (by decide)]
    refine ⟨Bx.k M 1 (by decide) rfl, ?_⟩
    try rw [show hi h (b + 1) 2 = _ from Bx.f2 M 1 (by decide)]
    rw [U.k]
    refine ⟨ir (by omega) (by omega), ir (by omega) (by omega), fun c10 => ?_, fun c10 => ?_⟩
    · exfalso; omega
    · refine ⟨(by omega), ?_⟩
      exact H _ rfl
  | succ n ih =>
    intro j z4 hj0 hn0 H
    obtain ⟨v2, v3, v4, vh⟩ := id V
    have hh := vh (8 * p + j) (by omega) (by omega)
    refine WP.of (RUN.mono GQ _) (cuts := [2, 16]) (n := 400) (v_X5_raises_2 _ _ _ _ _ _ _ _ ?_)
    refine ⟨Bx.k M 0 (by decide) rfl, ?_⟩
    try rw [show hr h b 0 = b + 1 from Bx.r M 0 0 1 (by decide)]
    refine ⟨Bx.k M 1 (by decide) rfl, ?_⟩
    try rw [show hi h (b + 1) 2 = _ from Bx.f2 M 1 (by decide)]
    rw [U.k]
    refine ⟨ir (by omega) (by omega), ir (by omega) (by omega), fun c10 => ?_, fun c10 => ?_⟩
    · refine L_X5_raises_16 M U V hp hkk (by omega) ((D 4 (8 * p + j)).toNat) _ (by omega) (by omega) ?_
      have e : rak D p k (n + 1) j = if ral D (8 * p + j) k (D 4 (8 * p + j)).toNat 0 = 1 then 1 else rak D p k n (j + 1) := rfl
      rw [e] at H
      exact ⟨fun q => H _ (by rw [if_pos q]), fun q _ => ih _ _ (by omega) (by omega) (by rw [if_neg (by omega)] at H; exact H)⟩
    · exfalso; omega
theorem S_X5_raises {d b : Nat} {h0 h : PH} {EP D : Nat → Int → Int} {Q : Int → PH → Prop} {X : Nat → PH → Prop} {p k : Int} (M : Px b h0 h EP) (U : PT EP D) (V : PIv D) (hp : 0 ≤ p ∧ p < 6) (hkk : InR k) (H : ∀ x : Int, x = (rak D p k (D 0 3).toNat 0) → Q x h) : RUN GQ (d + 2) m_X5_raises [pA b, pI p, pI k] h Q X := by
  obtain ⟨v2, v3, v4, vh⟩ := id V
  rw [e_X5_raises]
  refine WP.of (RUN.mono GQ _) (cuts := [2, 16]) (n := 400) (v_X5_raises_0 _ _ _ _ _ _ _ _ ?_)
  refine L_X5_raises_2 M U V hp hkk ((D 0 3).toNat) _ _ (by omega) (by omega) ?_
  exact H
