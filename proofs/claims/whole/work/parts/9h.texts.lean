/-! the model writes (written by wip/whole/tools/eng.py) -/
section VCS
variable {call : PC} {mc ms fr : Nat} {Q : Int → PH → Prop} {X : Nat → PH → Prop} {K : PK}
set_option maxRecDepth 100000 in
theorem v_X7_says_0 (a0 : Nat) (i1 : Int) (h : PH) (c s : Nat) (H : hk h a0 = 8 ∧ hk h a0 = 8 ∧ hk h (hr h a0 45) = 20 ∧ (0 ≤ (hi h a0 46) ∧ (hi h a0 46) < (hl h (hr h a0 45) : Int)) ∧ ∀ h1, h1 = hsi h (hr h a0 45) (Int.toNat ((hi h a0 46))) i1 →
 hk h1 a0 = 8 ∧ hk h1 a0 = 8 ∧ ∀ h2, h2 = hsi h1 a0 46 ((hi h1 a0 46) + 1) →
 Q 0 h2) : wpc k_X7_says [] call mc ms fr Q X [] K 400 (pto 0 k_X7_says) [some (pA a0), some (pI i1)] [] h c s :=
  H
set_option maxRecDepth 100000 in
theorem v_X7_saysNumber_0 (a0 : Nat) (i1 : Int) (z2 : Option PV) (h : PH) (c s : Nat) (H : K 2 [some (pA a0), some (pI i1), some (pI 1)] [] h c s) : wpc k_X7_saysNumber [] call mc ms fr Q X [2, 18] K 400 (pto 0 k_X7_saysNumber) [some (pA a0), some (pI i1), z2] [] h c s :=
  H
set_option maxRecDepth 100000 in
theorem v_X7_saysNumber_2 (a0 : Nat) (i1 : Int) (i2 : Int) (h : PH) (c s : Nat) (H : InR i1 ∧ InR i2 ∧ i2 ≠ 0 ∧ InR (Int.tdiv i1 i2) ∧ InR 10 ∧ ((Int.tdiv i1 i2) < 10 →
 K 18 [some (pA a0), some (pI i1), some (pI i2)] [] h c s) ∧
(10 ≤ (Int.tdiv i1 i2) →
 K 2 [some (pA a0), some (pI i1), some (pI (10 * i2))] [] h c s)) : wpc k_X7_saysNumber [] call mc ms fr Q X [2, 18] K 400 (pto 2 k_X7_saysNumber) [some (pA a0), some (pI i1), some (pI i2)] [] h c s :=
  H
set_option maxRecDepth 100000 in
theorem v_X7_saysNumber_18 (a0 : Nat) (i1 : Int) (i2 : Int) (h : PH) (c s : Nat) (H : InR i2 ∧ (0 < i2 →
 InR i1 ∧ InR i2 ∧ i2 ≠ 0 ∧ InR (Int.tdiv i1 i2) ∧ InR 10 ∧ (10 : Int) ≠ 0 ∧ hk h a0 = 8 ∧ call m_X7_says [pA a0, pI (48 + (Int.tmod (Int.tdiv i1 i2) 10))] h (fun _ h1 =>
 InR i2 ∧ InR 10 ∧ (10 : Int) ≠ 0 ∧ K 18 [some (pA a0), some (pI i1), some (pI (Int.tdiv i2 10))] [] h1 c s) X) ∧
(i2 ≤ 0 →
 Q 0 h)) : wpc k_X7_saysNumber [] call mc ms fr Q X [2, 18] K 400 (pto 18 k_X7_saysNumber) [some (pA a0), some (pI i1), some (pI i2)] [] h c s :=
  H
set_option maxRecDepth 100000 in
theorem v_X7_parts_0 (a0 : Nat) (i1 : Int) (h : PH) (c s : Nat) (H : hk h a0 = 8 ∧ InR (hi h a0 46) ∧ (0 < (hi h a0 46) →
 hk h a0 = 8 ∧ call m_X7_says [pA a0, pI i1] h (fun _ h1 =>
 Q 0 h1) X) ∧
((hi h a0 46) ≤ 0 →
 Q 0 h)) : wpc k_X7_parts [] call mc ms fr Q X [] K 400 (pto 0 k_X7_parts) [some (pA a0), some (pI i1)] [] h c s :=
  H
end VCS
theorem S_X7_says {d b : Nat} {h0 h : PH} {D : Nat → Int → Int} {s : Int → Int} {t : Int} {Q : Int → PH → Prop} {X : Nat → PH → Prop} {E : Nat → Int → Int} {l : List Int} {ch : Int} (M : Mt b h0 h D s t) (T : TX E D l) (hl : (l.length : Int) < 600) (H : ∀ (x : Int) h' D', x = 0 → TX E D' (l ++ [ch]) → Mt b h0 h' D' s t → Q x h') : RUN GQ (d + 1) m_X7_says [pA b, pI ch] h Q X := by
  have t1 := T.1
  rw [e_X7_says]
  refine WP.of (RUN.mono GQ _) (cuts := []) (n := 400) (v_X7_says_0 _ _ _ _ _ ?_)
  refine ⟨M.k0, ?_⟩
  try rw [M.r45]
  refine ⟨M.k0, ?_⟩
  try rw [M.f46]
  refine M.as19 (by omega) (by omega) (fun h9 M9 => ?_)
  refine ⟨M9.k0, ?_⟩
  try rw [M9.f46]
  rw [dst_row (by decide)]
  refine M9.p46 (fun h17 M17 => ?_)
  exact H _ _ _ rfl (T.put ch) M17
theorem L_X7_saysNumber_18 {d b : Nat} {h0 : PH} {s : Int → Int} {t : Int} {Q : Int → PH → Prop} {X : Nat → PH → Prop} {E : Nat → Int → Int} {v : Int} (hv : 0 ≤ v ∧ v ≤ 999999999) : ∀ (n : Nat) (u : Int) (l : List Int) (D : Nat → Int → Int) (h : PH), (Mt b h0 h D s t) → (TX E D l) → (n ≤ 10) → (u = pwz n) → ((l.length : Int) + n ≤ 600) → (∀ (x : Int) h' D', x = 0 → TX E D' (l ++ dgl v n) → Mt b h0 h' D' s t → Q x h') → WP k_X7_saysNumber [] (RUN GQ (d + 1)) 0 0 (d + 2) Q X 18 [some (pA b), some (pI v), some (pI u)] [] h 0 0 := by
  intro n
  induction n with
  | zero =>
    intro u l D h M T hn10 hu hl H
    have p0 : pwz 0 = 0 := rfl
    refine WP.of (RUN.mono GQ _) (cuts := [2, 18]) (n := 400) (v_X7_saysNumber_18 _ _ _ _ _ _ ?_)
    refine ⟨ir (by omega) (by omega), fun c19 => ?_, fun c19 => ?_⟩
    · exfalso; omega
    · exact H _ _ _ rfl (T.cast (by rw [dgl, List.append_nil])) M
  | succ n ih =>
    intro u l D h M T hn10 hu hl H
    have p0 : pwz 0 = 0 := rfl
    have p1 : pwz (n + 1) = pw n := rfl
    rw [p1] at hu
    subst hu
    have p2 := pw_pos n
    have p3 := pw_9 n (by omega)
    have d1 := dv_t hv.1 n
    have d2 := dv_pos hv.1 n
    have m1 := tmN (x := dv v n) (y := 10) (by omega) (by omega)
    have m2 := pwz_t n
    have m3 : Int.tmod (dv v n) 10 = dv v n % 10 := by rw [Int.tmod_eq_emod_of_nonneg (by omega)]
    refine WP.of (RUN.mono GQ _) (cuts := [2, 18]) (n := 400) (v_X7_saysNumber_18 _ _ _ _ _ _ ?_)
    refine ⟨ir (by omega) (by omega), fun c19 => ?_, fun c19 => ?_⟩
    · refine ⟨ir (by omega) (by omega), ir (by omega) (by omega), (by omega), ?_⟩
      rw [d1]
      refine ⟨ir (by omega) (by omega), ir (by omega) (by omega), (by omega), ?_⟩
      rw [m3]
      refine ⟨M.k0, ?_⟩
      refine S_X7_says M T (by omega) (fun x32 h32 D32 e32 T32 M32 => ?_)
      subst e32
      refine ⟨ir (by omega) (by omega), ir (by omega) (by omega), (by omega), ?_⟩
      refine ih _ _ _ _ M32 T32 (by omega) (by exact m2) (by rw [List.length_append]; show ((l.length + 1 : Nat) : Int) + n ≤ 600; omega) ?_
      refine fun x h' D' e T M => H x h' D' e (T.cast ?_) M
      rw [List.append_assoc]; rfl
    · exfalso; omega
theorem L_X7_saysNumber_2 {d b : Nat} {h0 : PH} {D : Nat → Int → Int} {t : Int} {Q : Int → PH → Prop} {X : Nat → PH → Prop} {E : Nat → Int → Int} {l : List Int} {v : Int} {s : Int → Int} {h : PH} (M : Mt b h0 h D s t) (T : TX E D l) (hv : 0 ≤ v ∧ v ≤ 999999999) (hl : (l.length : Int) ≤ 590) : ∀ (n : Nat) (u : Int) (j : Nat), (j + n = 9) → (u = pw j) → (∀ (x : Int) h' D', x = 0 → TX E D' (l ++ dgl v (ndl v n j + 1)) → Mt b h0 h' D' s t → Q x h') → WP k_X7_saysNumber [] (RUN GQ (d + 1)) 0 0 (d + 2) Q X 2 [some (pA b), some (pI v), some (pI u)] [] h 0 0 := by
  intro n
  induction n with
  | zero =>
    intro u j hj hu H
    subst hu
    have p1 := pw_pos j
    have p2 := pw_9 j (by omega)
    have d1 := dv_t hv.1 j
    have d2 := dv_pos hv.1 j
    have d10 : j = 9 → dv v j = 0 := fun e => by rw [e]; exact dv_9 hv
    have d3 : dv v (j + 1) = dv v j / 10 := rfl
    refine WP.of (RUN.mono GQ _) (cuts := [2, 18]) (n := 400) (v_X7_saysNumber_2 _ _ _ _ _ _ ?_)
    refine ⟨ir (by omega) (by omega), ir (by omega) (by omega), (by omega), ?_⟩
    rw [d1]
    refine ⟨ir (by omega) (by omega), ir (by omega) (by omega), fun c7 => ?_, fun c7 => ?_⟩
    · refine L_X7_saysNumber_18 hv (j + 1) _ _ _ _ M T (by omega) (by rfl) (by omega) ?_
      first
      | exact H
      | (rw [ndl, if_neg (by omega)] at H; exact H)
    · exfalso; omega
  | succ n ih =>
    intro u j hj hu H
    subst hu
    have p1 := pw_pos j
    have p2 := pw_9 j (by omega)
    have d1 := dv_t hv.1 j
    have d2 := dv_pos hv.1 j
    have d10 : j = 9 → dv v j = 0 := fun e => by rw [e]; exact dv_9 hv
    have d3 : dv v (j + 1) = dv v j / 10 := rfl
    refine WP.of (RUN.mono GQ _) (cuts := [2, 18]) (n := 400) (v_X7_saysNumber_2 _ _ _ _ _ _ ?_)
    refine ⟨ir (by omega) (by omega), ir (by omega) (by omega), (by omega), ?_⟩
    rw [d1]
    refine ⟨ir (by omega) (by omega), ir (by omega) (by omega), fun c7 => ?_, fun c7 => ?_⟩
    · refine L_X7_saysNumber_18 hv (j + 1) _ _ _ _ M T (by omega) (by rfl) (by omega) ?_
      first
      | exact H
      | (rw [ndl, if_neg (by omega)] at H; exact H)
    · refine ih _ (j + 1) (by omega) (by rfl) ?_
      rw [ndl, if_pos (by omega)] at H
      exact H
theorem S_X7_saysNumber {d b : Nat} {h0 h : PH} {D : Nat → Int → Int} {s : Int → Int} {t : Int} {Q : Int → PH → Prop} {X : Nat → PH → Prop} {E : Nat → Int → Int} {l : List Int} {v : Int} (M : Mt b h0 h D s t) (T : TX E D l) (hv : 0 ≤ v ∧ v ≤ 999999999) (hl : (l.length : Int) ≤ 590) (H : ∀ (x : Int) h' D', x = 0 → TX E D' (l ++ numL v) → Mt b h0 h' D' s t → Q x h') : RUN GQ (d + 2) m_X7_saysNumber [pA b, pI v] h Q X := by
  have t1 := T.1
  rw [e_X7_saysNumber]
  refine WP.of (RUN.mono GQ _) (cuts := [2, 18]) (n := 400) (v_X7_saysNumber_0 _ _ _ _ _ _ ?_)
  refine L_X7_saysNumber_2 M T hv hl (9) _ 0 (by omega) (by rfl) ?_
  exact H
theorem S_X7_parts {d b : Nat} {h0 h : PH} {D : Nat → Int → Int} {s : Int → Int} {t : Int} {Q : Int → PH → Prop} {X : Nat → PH → Prop} {E : Nat → Int → Int} {l : List Int} {ch : Int} (M : Mt b h0 h D s t) (T : TX E D l) (hl : (l.length : Int) < 600) (hc : InR ch) (H : ∀ (x : Int) h' D', x = 0 → TX E D' (sepL l ch) → Mt b h0 h' D' s t → Q x h') : RUN GQ (d + 2) m_X7_parts [pA b, pI ch] h Q X := by
  have t1 := T.1
  rw [e_X7_parts]
  refine WP.of (RUN.mono GQ _) (cuts := []) (n := 400) (v_X7_parts_0 _ _ _ _ _ ?_)
  refine ⟨M.k0, ?_⟩
  try rw [M.f46]
  refine ⟨ir (by omega) (by omega), fun c4 => ?_, fun c4 => ?_⟩
  · refine ⟨M.k0, ?_⟩
    refine S_X7_says M T (by omega) (fun x9 h9 D9 e9 T9 M9 => ?_)
    subst e9
    exact H _ _ _ rfl (T9.cast (by unfold sepL; first | rw [if_neg (by omega)] | rw [if_pos (by omega)])) M9
  · exact H _ _ _ rfl (T.cast (by unfold sepL; first | rw [if_neg (by omega)] | rw [if_pos (by omega)])) M
