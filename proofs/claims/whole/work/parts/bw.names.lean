/-! the class takes a new name -/
theorem ltl_all {D : Nat → Int → Int} : ∀ (n : Nat) (p i : Int), p ≤ i → i < ltl D n p → isL (bt D i)
  | 0, p, i, a, b => by
    have e : ltl D 0 p = p := rfl
    rw [e] at b
    omega
  | n + 1, p, i, a, b => by
    have e : ltl D (n + 1) p = if isL (bt D p) then ltl D n (p + 1) else p := rfl
    rw [e] at b
    by_cases c : isL (bt D p)
    · rw [if_pos c] at b
      by_cases y : i = p
      · rw [y]; exact c
      · exact ltl_all n (p + 1) i (by omega) b
    · rw [if_neg c] at b
      omega
/-- a word is of letters -/
def PLW (D : Nat → Int → Int) : Prop := D 0 23 = 1 → ∀ i, D 0 22 ≤ i → i < D 0 21 → isL (bt D i)
theorem bt_tok (D : Nat → Int → Int) (i : Int) : bt (tokD D) i = bt D i := by
  unfold bt
  rw [tok_20, tok_row D (by decide)]
theorem PLW.tok (D : Nat → Int → Int) : PLW (tokD D) := by
  intro h i a b
  rw [bt_tok]
  rw [tok_23] at h
  rw [tok_22] at a
  rw [tok_21] at b
  by_cases c1 : bt D (tkP D) = -1
  · exfalso
    unfold tkS at h
    rw [if_pos c1] at h
    omega
  · by_cases c2 : isL (bt D (tkP D))
    · unfold tkN at b
      rw [if_neg c1, if_pos c2] at b
      exact ltl_all _ _ i a b
    · exfalso
      unfold tkS at h
      rw [if_neg c1, if_neg c2] at h
      split at h
      · split at h <;> omega
      · split at h <;> omega
theorem PLW.go {D : Nat → Int → Int} (h : gD D 0 25 = 0) : PLW (gD D) := by
  have e : gD D = tokD D := if_pos (by rw [go_25] at h; exact h)
  rw [e]
  exact PLW.tok D
theorem nwl_at {j : Nat} {k : Int} (h0 : j ≠ 0) (h1 : j ≠ 10) : ∀ (n : Nat) (q : Int) (D : Nat → Int → Int) (e : Int), nwl j k n q D j e = if 7 * k + q ≤ e ∧ e < 7 * k + q + n then nmc D (D 0 22) (D 0 21) (e - 7 * k) else D j e
  | 0, q, D, e => by rw [if_neg (by omega)]; rfl
  | n + 1, q, D, e => by
    show nwl j k n (q + 1) (dst D j (7 * k + q) (nmc D (D 0 22) (D 0 21) q)) j e = _
    rw [nwl_at h0 h1 n (q + 1)]
    have m : ∀ i, nmc (dst D j (7 * k + q) (nmc D (D 0 22) (D 0 21) q)) (dst D j (7 * k + q) (nmc D (D 0 22) (D 0 21) q) 0 22) (dst D j (7 * k + q) (nmc D (D 0 22) (D 0 21) q) 0 21) i = nmc D (D 0 22) (D 0 21) i := fun i => by
      unfold nmc
      rw [dst_row (Ne.symm h0), dst_row (Ne.symm h1)]
    rw [m]
    by_cases c : e = 7 * k + q
    · rw [c, if_neg (by omega), if_pos (by omega), dst_eq, show 7 * k + q - 7 * k = q by omega]
    · rw [dst_ne c]
      by_cases c2 : 7 * k + q ≤ e ∧ e < 7 * k + q + (n + 1 : Nat)
      · rw [if_pos (by omega), if_pos c2]
      · rw [if_neg (by omega), if_neg c2]
theorem nn_cls {D : Nat → Int → Int} {j : Nat} {many x : Int} (hx : D 0 25 = 0 → x = nmv (D j) D (D 0 22) (D 0 21) many.toNat 0) : (D 0 23 = 1 → (x ≠ -1 → nnD j many D = flD D 3) ∧ (x = -1 → nnD j many D = D)) ∧ (D 0 23 ≠ 1 → nnD j many D = flD D 1) := by
  refine ⟨fun h1 => ?_, fun h1 => ?_⟩
  · have e : n1D D = D := if_pos h1
    unfold nnD
    rw [e]
    by_cases c : D 0 25 = 0
    · rw [← hx c]
      exact ⟨fun y => if_pos ⟨c, y⟩, fun y => if_neg (by omega)⟩
    · rw [if_neg (by omega)]
      exact ⟨fun _ => (if_neg c).symm, fun _ => rfl⟩
  · have e : n1D D = flD D 1 := if_neg h1
    have z := fl_25 D (w := 1) (by decide)
    unfold nnD
    rw [e, if_neg (fun y => z y.1)]
/-- a name is added -/
theorem NR.add {ln lt f : Int → Int} {D : Nat → Int → Int} {K m : Int} {j j2 j3 : Nat} {EP : Nat → Int → Int} (hK : 0 ≤ K) (h0 : j ≠ 0) (h1 : j ≠ 10) (NK : NR (EP j2) (EP j3) (D j) K) (hm : 1 ≤ m ∧ m ≤ 7) (e : D 0 21 = D 0 22 + m) (h22 : 0 ≤ D 0 22) (hL : D 0 21 ≤ D 0 20) (pl : ∀ i, D 0 22 ≤ i → i < D 0 21 → isL (bt D i)) :
    NR (ups (EP j2) K m) (fun e => if K * 7 + 0 ≤ e ∧ e < K * 7 + 0 + m.toNat then sgb (D 10 (D 0 22 + (e - K * 7))) else EP j3 e) (nwl j K 7 0 D j) (K + 1) := by
  intro k k0 k1
  by_cases c : k = K
  · subst c
    rw [ups_eq]
    refine ⟨hm, fun i a b => ?_, fun i a b => ?_⟩
    · have q := pl (D 0 22 + i) (by omega) (by omega)
      have eb : bt D (D 0 22 + i) = D 10 (D 0 22 + i) := if_pos (by omega)
      rw [eb] at q
      rw [nwl_at h0 h1, if_pos (by omega)]
      show (if k * 7 + 0 ≤ 7 * k + i ∧ 7 * k + i < k * 7 + 0 + (m.toNat : Int) then sgb (D 10 (D 0 22 + (7 * k + i - k * 7))) else EP j3 (7 * k + i)) = _ ∧ _
      rw [if_pos (by omega)]
      unfold nmc
      rw [if_pos (by omega), show 7 * k + i - k * 7 = i by omega, show 7 * k + i - 7 * k = i by omega]
      exact ⟨sgb_lt (by unfold isL at q; omega), q.1, q.2⟩
    · rw [nwl_at h0 h1, if_pos (by omega)]
      unfold nmc
      exact if_neg (by omega)
  · obtain ⟨n1, n2, n3⟩ := NK k k0 (by omega)
    rw [ups_ne c]
    refine ⟨n1, fun i a b => ?_, fun i a b => ?_⟩
    · rw [nwl_at h0 h1, if_neg (by omega)]
      show (if K * 7 + 0 ≤ 7 * k + i ∧ 7 * k + i < K * 7 + 0 + (m.toNat : Int) then sgb (D 10 (D 0 22 + (7 * k + i - K * 7))) else EP j3 (7 * k + i)) = _ ∧ _
      rw [if_neg (by omega)]
      exact n2 i a b
    · rw [nwl_at h0 h1, if_neg (by omega)]
      exact n3 i a b
section NN
variable {call : PC} {mc ms fr : Nat} {Q : Int → PH → Prop} {X : Nat → PH → Prop} {K : PK}
set_option maxRecDepth 100000 in
theorem v_X4_takeNewName_0 (a0 : Nat) (a1 : Nat) (h : PH) (c s : Nat) (H : hk h a0 = 5 ∧ InR (hi h a0 4) ∧ ((hi h a0 4) = 0 →
 hk h a0 = 5 ∧ hk h a0 = 5 ∧ hk h a0 = 5 ∧ hk h a0 = 5 ∧ hk h a1 = 3 ∧ call m_X2_placeOf [pA a1, pA (hr h a0 0), pI (hi h a0 5), pI ((hi h a0 6) - (hi h a0 5))] h (fun x1 h1 =>
 InR x1 ∧ InR ((-1)) ∧ (x1 = ((-1)) →
 K 45 [some (pA a0), some (pA a1)] [] h1 c s) ∧
(x1 ≠ ((-1)) →
 hk h1 a0 = 5 ∧ call m_X4_fail [pA a0, pI 3] h1 (fun _ h2 =>
 K 45 [some (pA a0), some (pA a1)] [] h2 c s) X)) X) ∧
((hi h a0 4) ≠ 0 →
 hk h a0 = 5 ∧ call m_X4_fail [pA a0, pI 1] h (fun _ h3 =>
 K 45 [some (pA a0), some (pA a1)] [] h3 c s) X)) : wpc k_X4_takeNewName [] call mc ms fr Q X [45, 73] K 400 (pto 0 k_X4_takeNewName) [some (pA a0), some (pA a1)] [] h c s :=
  H
set_option maxRecDepth 100000 in
theorem v_X4_takeNewName_45 (a0 : Nat) (a1 : Nat) (h : PH) (c s : Nat) (H : hk h a0 = 5 ∧ InR (hi h a0 9) ∧ ((hi h a0 9) = 0 →
 hk h a0 = 5 ∧ hk h a0 = 5 ∧ hk h a0 = 5 ∧ hk h a0 = 5 ∧ hk h a1 = 3 ∧ call m_X2_add [pA a1, pA (hr h a0 0), pI (hi h a0 5), pI ((hi h a0 6) - (hi h a0 5))] h (fun _ h1 =>
 K 73 [some (pA a0), some (pA a1)] [] h1 c s) X) ∧
((hi h a0 9) ≠ 0 →
 K 73 [some (pA a0), some (pA a1)] [] h c s)) : wpc k_X4_takeNewName [] call mc ms fr Q X [45, 73] K 400 (pto 45 k_X4_takeNewName) [some (pA a0), some (pA a1)] [] h c s :=
  H
set_option maxRecDepth 100000 in
theorem v_X4_takeNewName_73 (a0 : Nat) (a1 : Nat) (h : PH) (c s : Nat) (H : hk h a0 = 5 ∧ call m_X4_advance [pA a0] h (fun _ h1 =>
 Q 0 h1) X) : wpc k_X4_takeNewName [] call mc ms fr Q X [45, 73] K 400 (pto 73 k_X4_takeNewName) [some (pA a0), some (pA a1)] [] h c s :=
  H
end NN
section TNN
variable {d p b : Nat} {h0 h : PH} {ES EP E D : Nat → Int → Int} {f1 f2 : Int → Int} {K1 K2 : Int} {Q : Int → PH → Prop} {X : Nat → PH → Prop}
theorem W_takeNewName_k {k : Int} (Z : PWs h0 h p b ES EP E D f1 f2 K1 K2) (R : PR D) (hpl : D 0 25 = 0 → PLW D) (hg : D 0 25 = 0 → (f1 = D 11 ∧ K1 = D 0 31) ∧ K1 < 8 ∧ k = K1)
    (H : ∀ h' ES' EP' g J, PWs h0 h' p b ES' EP' E (nwD 11 (D 0 31) k D) g f2 J K2 → ES' 0 8 = ES 0 8 → (nwD 11 (D 0 31) k D 0 25 = 0 → g = nwD 11 (D 0 31) k D 11 ∧ J = D 0 31 + 1 ∧ ∀ i, i ≠ 1 → i ≠ 2 → i ≠ 3 → EP' i = EP i) → Q 0 h') : RUN GQ (d + 4) m_X4_takeNewName [pA p, pA (b + 1)] h Q X := by
  rw [e_X4_takeNewName]
  -- behind the checks
  have tail : ∀ (h1 : PH) (ES1 : Nat → Int → Int), PWs h0 h1 p b ES1 EP E (nnD 11 (D 0 31) D) f1 f2 K1 K2 → ES1 0 8 = ES 0 8 → WP k_X4_takeNewName [] (RUN GQ (d + 3)) 0 0 (d + 4) Q X 45 [some (pA p), some (pA (b + 1))] [] h1 0 0 := by
    intro h1 ES1 Z1 q1
    refine WP.of (RUN.mono GQ _) (cuts := [45, 73]) (n := 400) (v_X4_takeNewName_45 _ _ _ _ _ ?_)
    have R1 := R.nn 11 (D 0 31)
    have e25 := R1.e25
    have f9 : hi h1 p 9 = nnD 11 (D 0 31) D 0 25 := (Z1.S.f9 0 (by decide)).trans Z1.P.2.2.2.2.2.1
    rw [f9]
    refine ⟨Z1.k5, ir (by omega) (by omega), fun c => ?_, fun c => ?_⟩
    · -- there is no error: nothing was failed
      have c0 : D 0 25 = 0 ∧ D 0 23 = 1 ∧ nnD 11 (D 0 31) D = D := by
        have cl := nn_cls (D := D) (j := 11) (many := D 0 31) (x := nmv (D 11) D (D 0 22) (D 0 21) (D 0 31).toNat 0) (fun _ => rfl)
        by_cases w : D 0 23 = 1
        · by_cases y : nmv (D 11) D (D 0 22) (D 0 21) (D 0 31).toNat 0 = -1
          · have e := (cl.1 w).2 y
            exact ⟨by rw [← e]; exact c, w, e⟩
          · have e := (cl.1 w).1 y
            rw [e] at c
            exact absurd c (fl_25 D (by decide))
        · have e := cl.2 w
          rw [e] at c
          exact absurd c (fl_25 D (by decide))
      obtain ⟨c25, c23, eD⟩ := c0
      rw [eD] at Z1
      obtain ⟨⟨g1, g2⟩, g3, g4⟩ := hg c25
      have nm := Z1.N
      have r22 := R.2.1
      have rL := R.L
      have r7 := R.2.2.2.2.1 c23
      have f5 : hi h1 p 5 = D 0 22 := (Z1.S.f5 0 (by decide)).trans Z1.P.2.2.1
      have f6 : hi h1 p 6 = D 0 21 := (Z1.S.f6 0 (by decide)).trans Z1.P.2.2.2.1
      rw [f5, f6, Z1.r0]
      refine ⟨Z1.k5, Z1.k5, Z1.k5, Z1.k5, Z1.L.k 1 (by decide) rfl, ?_⟩
      refine S_X2_add_k Z1.L Z1.F Z1.hb R.B nm.1.1 ⟨nm.1.2.1.1, g3⟩ ⟨by omega, by omega⟩ ⟨by omega, by omega⟩ (fun x h2 ex L2 => ?_)
      refine WP.of (RUN.mono GQ _) (cuts := [45, 73]) (n := 400) (v_X4_takeNewName_73 _ _ _ _ _ ?_)
      -- the names that there are now
      have NK := nm.1.2.2
      rw [g1] at NK
      have NA := NR.add (EP := EP) (ln := EP 2) (lt := EP 3) (f := f1) (j := 11) (j2 := 2) (j3 := 3) (m := D 0 21 - D 0 22) nm.1.2.1.1 (by decide) (by decide) NK ⟨by omega, by omega⟩ (by omega) r22.1 r22.2.2 (hpl c25 c23)
      have k8 := nm.1.2.1
      have N2 : NMs (dst (awl 3 D K1 (D 0 22) (D 0 21 - D 0 22).toNat 0 (dst EP 2 K1 (D 0 21 - D 0 22))) 1 2 (K1 + 1)) (nwl 11 K1 7 0 D 11) f2 (K1 + 1) K2 := by
        have a3 : dst (awl 3 D K1 (D 0 22) (D 0 21 - D 0 22).toNat 0 (dst EP 2 K1 (D 0 21 - D 0 22))) 1 2 (K1 + 1) 3 = fun e => if K1 * 7 + 0 ≤ e ∧ e < K1 * 7 + 0 + (D 0 21 - D 0 22).toNat then sgb (D 10 (D 0 22 + (e - K1 * 7))) else EP 3 e := by
          rw [dst_row (by decide)]
          funext e
          rw [awl_at]
          rfl
        have a2 : dst (awl 3 D K1 (D 0 22) (D 0 21 - D 0 22).toNat 0 (dst EP 2 K1 (D 0 21 - D 0 22))) 1 2 (K1 + 1) 2 = ups (EP 2) K1 (D 0 21 - D 0 22) := by
          rw [dst_row (by decide), awl_row (by decide)]
          exact if_pos rfl
        have ot : ∀ i, i ≠ 1 → i ≠ 2 → i ≠ 3 → dst (awl 3 D K1 (D 0 22) (D 0 21 - D 0 22).toNat 0 (dst EP 2 K1 (D 0 21 - D 0 22))) 1 2 (K1 + 1) i = EP i := fun i a b' c => by
          rw [dst_row a, awl_row c, dst_row b']
        exact ⟨⟨rfl, ⟨by omega, by omega⟩, by rw [a2, a3]; exact NA⟩, by rw [ot 4 (by decide) (by decide) (by decide)]; exact nm.2.1, nm.2.2.1, by rw [ot 5 (by decide) (by decide) (by decide), ot 6 (by decide) (by decide) (by decide)]; exact nm.2.2.2⟩
      have Z2 := Z1.l L2 N2
      have ge : nwD 11 (D 0 31) k D = gD (nwl 11 K1 7 0 D) := by
        unfold nwD
        rw [eD, if_pos c25, g4]
      have P2 : PCr ES1 (nwl 11 K1 7 0 D) := by
        have e0 : nwl 11 K1 7 0 D 0 = D 0 := nwl_row (by decide) 7 0 D
        have P1 := Z1.P
        unfold PCr at P1 ⊢
        rw [e0]
        exact P1
      have Z3 := Z2.dd (D' := nwl 11 K1 7 0 D) (nwl_row (by decide) 7 0 D) P2
      refine ⟨Z3.k5, W_advance Z3 (PR.nwl (by decide) (by decide) 7 0 D R) (fun h3 ES3 Z4 q4 => ?_)⟩
      refine H h3 ES3 _ _ _ (by rw [ge]; exact Z4) (q4.trans q1) (fun _ => ⟨?_, by rw [g2], fun i a b' c' => by rw [dst_row a, awl_row c', dst_row b']⟩)
      rw [ge, go_row _ (by decide)]
    · refine WP.of (RUN.mono GQ _) (cuts := [45, 73]) (n := 400) (v_X4_takeNewName_73 _ _ _ _ _ ?_)
      have ge : nwD 11 (D 0 31) k D = gD (nnD 11 (D 0 31) D) := by
        unfold nwD
        rw [if_neg c]
      refine ⟨Z1.k5, W_advance Z1 R1 (fun h3 ES3 Z4 q4 => ?_)⟩
      refine H h3 ES3 EP f1 K1 (by rw [ge]; exact Z4) (q4.trans q1) (fun y => absurd y (by rw [ge, go_25]; exact c))
  refine WP.of (RUN.mono GQ _) (cuts := [45, 73]) (n := 400) (v_X4_takeNewName_0 _ _ _ _ _ ?_)
  have k5 := Z.k5
  have f4 : hi h p 4 = tkc (D 0 23) := (Z.S.f4 0 (by decide)).trans Z.P.2.1
  have f5 : hi h p 5 = D 0 22 := (Z.S.f5 0 (by decide)).trans Z.P.2.2.1
  have f6 : hi h p 6 = D 0 21 := (Z.S.f6 0 (by decide)).trans Z.P.2.2.2.1
  have tk := tkc_or (D 0 23)
  have r22 := R.2.1
  have rL := R.L
  have nm := Z.N
  rw [f4, f5, f6, Z.r0]
  refine ⟨k5, ir (by omega) (by omega), fun c => ⟨k5, k5, k5, k5, Z.L.k 1 (by decide) rfl, ?_⟩, fun c => ⟨k5, ?_⟩⟩
  · refine S_X2_placeOf_k Z.L Z.F nm.1.1 nm.1.2.1 nm.1.2.2 R.B ⟨by omega, by omega⟩ ⟨by omega, by omega⟩ (fun x ex => ?_)
    rw [show D 0 22 + (D 0 21 - D 0 22) = D 0 21 by omega] at ex
    have rg := nmv_rng f1 D (D 0 22) (D 0 21) (K1).toNat 0 (by omega)
    rw [← ex] at rg
    have k8 := nm.1.2.1
    have cl := (nn_cls (D := D) (j := 11) (many := D 0 31) (x := x) (fun z => by rw [ex, (hg z).1.1, (hg z).1.2])).1 (by omega)
    refine ⟨ir (by omega) (by omega), ir (by omega) (by omega), fun y => ?_, fun y => ⟨k5, ?_⟩⟩
    · exact tail h ES (by rw [cl.2 y]; exact Z) rfl
    · exact W_fail Z R (fun h' ES' Z' q => tail h' ES' (by rw [cl.1 y]; exact Z') q)
  · have e := (nn_cls (D := D) (j := 11) (many := D 0 31) (x := nmv (D 11) D (D 0 22) (D 0 21) (D 0 31).toNat 0) (fun _ => rfl)).2 (by omega)
    exact W_fail Z R (fun h' ES' Z' q => tail h' ES' (by rw [e]; exact Z') q)
theorem W_takeNewName_p {k : Int} (Z : PWs h0 h p b ES EP E D f1 f2 K1 K2) (R : PR D) (hpl : D 0 25 = 0 → PLW D) (hg : D 0 25 = 0 → (f2 = D 12 ∧ K2 = D 0 32) ∧ K2 < 8 ∧ k = K2)
    (H : ∀ h' ES' EP' g J, PWs h0 h' p b ES' EP' E (nwD 12 (D 0 32) k D) f1 g K1 J → ES' 0 8 = ES 0 8 → (nwD 12 (D 0 32) k D 0 25 = 0 → g = nwD 12 (D 0 32) k D 12 ∧ J = D 0 32 + 1 ∧ ∀ i, i ≠ 4 → i ≠ 5 → i ≠ 6 → EP' i = EP i) → Q 0 h') : RUN GQ (d + 4) m_X4_takeNewName [pA p, pA (b + 4)] h Q X := by
  rw [e_X4_takeNewName]
  -- behind the checks
  have tail : ∀ (h1 : PH) (ES1 : Nat → Int → Int), PWs h0 h1 p b ES1 EP E (nnD 12 (D 0 32) D) f1 f2 K1 K2 → ES1 0 8 = ES 0 8 → WP k_X4_takeNewName [] (RUN GQ (d + 3)) 0 0 (d + 4) Q X 45 [some (pA p), some (pA (b + 4))] [] h1 0 0 := by
    intro h1 ES1 Z1 q1
    refine WP.of (RUN.mono GQ _) (cuts := [45, 73]) (n := 400) (v_X4_takeNewName_45 _ _ _ _ _ ?_)
    have R1 := R.nn 12 (D 0 32)
    have e25 := R1.e25
    have f9 : hi h1 p 9 = nnD 12 (D 0 32) D 0 25 := (Z1.S.f9 0 (by decide)).trans Z1.P.2.2.2.2.2.1
    rw [f9]
    refine ⟨Z1.k5, ir (by omega) (by omega), fun c => ?_, fun c => ?_⟩
    · -- there is no error: nothing was failed
      have c0 : D 0 25 = 0 ∧ D 0 23 = 1 ∧ nnD 12 (D 0 32) D = D := by
        have cl := nn_cls (D := D) (j := 12) (many := D 0 32) (x := nmv (D 12) D (D 0 22) (D 0 21) (D 0 32).toNat 0) (fun _ => rfl)
        by_cases w : D 0 23 = 1
        · by_cases y : nmv (D 12) D (D 0 22) (D 0 21) (D 0 32).toNat 0 = -1
          · have e := (cl.1 w).2 y
            exact ⟨by rw [← e]; exact c, w, e⟩
          · have e := (cl.1 w).1 y
            rw [e] at c
            exact absurd c (fl_25 D (by decide))
        · have e := cl.2 w
          rw [e] at c
          exact absurd c (fl_25 D (by decide))
      obtain ⟨c25, c23, eD⟩ := c0
      rw [eD] at Z1
      obtain ⟨⟨g1, g2⟩, g3, g4⟩ := hg c25
      have nm := Z1.N
      have r22 := R.2.1
      have rL := R.L
      have r7 := R.2.2.2.2.1 c23
      have f5 : hi h1 p 5 = D 0 22 := (Z1.S.f5 0 (by decide)).trans Z1.P.2.2.1
      have f6 : hi h1 p 6 = D 0 21 := (Z1.S.f6 0 (by decide)).trans Z1.P.2.2.2.1
      rw [f5, f6, Z1.r0]
      refine ⟨Z1.k5, Z1.k5, Z1.k5, Z1.k5, Z1.L.k 4 (by decide) rfl, ?_⟩
      refine S_X2_add_p Z1.L Z1.F Z1.hb R.B nm.2.1 ⟨nm.2.2.1.1, g3⟩ ⟨by omega, by omega⟩ ⟨by omega, by omega⟩ (fun x h2 ex L2 => ?_)
      refine WP.of (RUN.mono GQ _) (cuts := [45, 73]) (n := 400) (v_X4_takeNewName_73 _ _ _ _ _ ?_)
      -- the names that there are now
      have NK := nm.2.2.2
      rw [g1] at NK
      have NA := NR.add (EP := EP) (ln := EP 5) (lt := EP 6) (f := f1) (j := 12) (j2 := 5) (j3 := 6) (m := D 0 21 - D 0 22) nm.2.2.1.1 (by decide) (by decide) NK ⟨by omega, by omega⟩ (by omega) r22.1 r22.2.2 (hpl c25 c23)
      have k8 := nm.2.2.1
      have N2 : NMs (dst (awl 6 D K2 (D 0 22) (D 0 21 - D 0 22).toNat 0 (dst EP 5 K2 (D 0 21 - D 0 22))) 4 2 (K2 + 1)) f1 (nwl 12 K2 7 0 D 12) K1 (K2 + 1) := by
        have a3 : dst (awl 6 D K2 (D 0 22) (D 0 21 - D 0 22).toNat 0 (dst EP 5 K2 (D 0 21 - D 0 22))) 4 2 (K2 + 1) 6 = fun e => if K2 * 7 + 0 ≤ e ∧ e < K2 * 7 + 0 + (D 0 21 - D 0 22).toNat then sgb (D 10 (D 0 22 + (e - K2 * 7))) else EP 6 e := by
          rw [dst_row (by decide)]
          funext e
          rw [awl_at]
          rfl
        have a2 : dst (awl 6 D K2 (D 0 22) (D 0 21 - D 0 22).toNat 0 (dst EP 5 K2 (D 0 21 - D 0 22))) 4 2 (K2 + 1) 5 = ups (EP 5) K2 (D 0 21 - D 0 22) := by
          rw [dst_row (by decide), awl_row (by decide)]
          exact if_pos rfl
        have ot : ∀ i, i ≠ 4 → i ≠ 5 → i ≠ 6 → dst (awl 6 D K2 (D 0 22) (D 0 21 - D 0 22).toNat 0 (dst EP 5 K2 (D 0 21 - D 0 22))) 4 2 (K2 + 1) i = EP i := fun i a b' c => by
          rw [dst_row a, awl_row c, dst_row b']
        exact ⟨⟨by rw [ot 1 (by decide) (by decide) (by decide)]; exact nm.1.1, nm.1.2.1, by rw [ot 2 (by decide) (by decide) (by decide), ot 3 (by decide) (by decide) (by decide)]; exact nm.1.2.2⟩, rfl, ⟨by omega, by omega⟩, by rw [a2, a3]; exact NA⟩
      have Z2 := Z1.l L2 N2
      have ge : nwD 12 (D 0 32) k D = gD (nwl 12 K2 7 0 D) := by
        unfold nwD
        rw [eD, if_pos c25, g4]
      have P2 : PCr ES1 (nwl 12 K2 7 0 D) := by
        have e0 : nwl 12 K2 7 0 D 0 = D 0 := nwl_row (by decide) 7 0 D
        have P1 := Z1.P
        unfold PCr at P1 ⊢
        rw [e0]
        exact P1
      have Z3 := Z2.dd (D' := nwl 12 K2 7 0 D) (nwl_row (by decide) 7 0 D) P2
      refine ⟨Z3.k5, W_advance Z3 (PR.nwl (by decide) (by decide) 7 0 D R) (fun h3 ES3 Z4 q4 => ?_)⟩
      refine H h3 ES3 _ _ _ (by rw [ge]; exact Z4) (q4.trans q1) (fun _ => ⟨?_, by rw [g2], fun i a b' c' => by rw [dst_row a, awl_row c', dst_row b']⟩)
      rw [ge, go_row _ (by decide)]
    · refine WP.of (RUN.mono GQ _) (cuts := [45, 73]) (n := 400) (v_X4_takeNewName_73 _ _ _ _ _ ?_)
      have ge : nwD 12 (D 0 32) k D = gD (nnD 12 (D 0 32) D) := by
        unfold nwD
        rw [if_neg c]
      refine ⟨Z1.k5, W_advance Z1 R1 (fun h3 ES3 Z4 q4 => ?_)⟩
      refine H h3 ES3 EP f2 K2 (by rw [ge]; exact Z4) (q4.trans q1) (fun y => absurd y (by rw [ge, go_25]; exact c))
  refine WP.of (RUN.mono GQ _) (cuts := [45, 73]) (n := 400) (v_X4_takeNewName_0 _ _ _ _ _ ?_)
  have k5 := Z.k5
  have f4 : hi h p 4 = tkc (D 0 23) := (Z.S.f4 0 (by decide)).trans Z.P.2.1
  have f5 : hi h p 5 = D 0 22 := (Z.S.f5 0 (by decide)).trans Z.P.2.2.1
  have f6 : hi h p 6 = D 0 21 := (Z.S.f6 0 (by decide)).trans Z.P.2.2.2.1
  have tk := tkc_or (D 0 23)
  have r22 := R.2.1
  have rL := R.L
  have nm := Z.N
  rw [f4, f5, f6, Z.r0]
  refine ⟨k5, ir (by omega) (by omega), fun c => ⟨k5, k5, k5, k5, Z.L.k 4 (by decide) rfl, ?_⟩, fun c => ⟨k5, ?_⟩⟩
  · refine S_X2_placeOf_p Z.L Z.F nm.2.1 nm.2.2.1 nm.2.2.2 R.B ⟨by omega, by omega⟩ ⟨by omega, by omega⟩ (fun x ex => ?_)
    rw [show D 0 22 + (D 0 21 - D 0 22) = D 0 21 by omega] at ex
    have rg := nmv_rng f2 D (D 0 22) (D 0 21) (K2).toNat 0 (by omega)
    rw [← ex] at rg
    have k8 := nm.2.2.1
    have cl := (nn_cls (D := D) (j := 12) (many := D 0 32) (x := x) (fun z => by rw [ex, (hg z).1.1, (hg z).1.2])).1 (by omega)
    refine ⟨ir (by omega) (by omega), ir (by omega) (by omega), fun y => ?_, fun y => ⟨k5, ?_⟩⟩
    · exact tail h ES (by rw [cl.2 y]; exact Z) rfl
    · exact W_fail Z R (fun h' ES' Z' q => tail h' ES' (by rw [cl.1 y]; exact Z') q)
  · have e := (nn_cls (D := D) (j := 12) (many := D 0 32) (x := nmv (D 12) D (D 0 22) (D 0 21) (D 0 32).toNat 0) (fun _ => rfl)).2 (by omega)
    exact W_fail Z R (fun h' ES' Z' q => tail h' ES' (by rw [e]; exact Z') q)
end TNN
