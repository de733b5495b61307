/-! a load, seen from the whole object -/
section LDS
variable {h h5 h' : PH} {B A B2 A2 nx : Nat} {EP E D : Nat → Int → Int} {s : Int → Int} {N N' n : Int}
/-- what is read -/
theorem CD.rd (G : CD D s N) (hn : 0 ≤ n ∧ n ≤ D 0 17) : KD (dst D 0 17 0) (rdD (dst D 0 17 0) n) ∧ PR (rdD (dst D 0 17 0) n) ∧ RI (rdD (dst D 0 17 0) n) ∧ (rdD (dst D 0 17 0) n 0 25 = 0 → RS (rdD (dst D 0 17 0) n) ∧ rdD (dst D 0 17 0) n 0 26 = -1) := by
  have h17 := G.h17
  have b := G.B.of (D' := dst D 0 17 0) (dst_row (by decide))
  have n1 : NB (dst D 0 17 0 11) := by rw [dst_row (by decide)]; exact G.n11
  have n2 : NB (dst D 0 17 0 12) := by rw [dst_row (by decide)]; exact G.n12
  have k := G.k.of (D' := dst D 0 17 0) (dst_row (by decide))
  have q := rdD_all (D := dst D 0 17 0) (n := n) ⟨hn.1, by omega⟩ b n1 n2 k
  exact ⟨rdD_KD ⟨hn.1, by omega⟩ b n1 n2 k, q.1, q.2.1, fun z => ⟨(q.2.2 z).1, rdD_26 z⟩⟩
/-- the text is wrong -/
theorem CPx.lE {R : Nat → Int → Int} {D' : Nat → Int → Int} {n' : Nat} (C : CPx h B A B2 A2 nx EP E D s N) (x : LDX h h5 B2 R s) (hn' : hn h5 ≤ n') (f17 : D' 0 17 = 0) (f18 : D' 0 18 = R 0 25) (f19 : D' 0 19 = R 0 26) (f : ∀ e, e < 17 ∨ e = 46 → D' 0 e = D 0 e) (r : ∀ j, 1 ≤ j → (j ≤ 10 ∨ 19 ≤ j) → D' j = D j) (hN : N ≤ N') : CF h (hup h5 n') ∧ CP (hup h5 n') D' s N' := by
  obtain ⟨p, T, e, P, Fb, O, P1, P2, RM, K, n1⟩ := C
  have g := p.rg
  obtain ⟨x1, ⟨x2, x3, x4⟩, ⟨x5, x6, x7⟩, x8, EP', E', f1, f2, K1, K2, n8, L, M, NM, GG⟩ := x
  have sA : ∀ r, r < hn h → r ≠ 64 → ¬ (B2 ≤ r ∧ r < B2 + 24) → SC h (hup h5 n') r := fun r a b c => x1 r a b c
  have up : ∀ r, SC h5 (hup h5 n') r := fun r => SC.refl h5 r
  have K1' : K64 h (hup h5 n') := ⟨x2, x3⟩
  have nn : hn (hup h5 n') = n' := rfl
  have q9 : D' 9 = D 9 := r 9 (by decide) (by decide)
  refine ⟨⟨by omega, fun r a b => sA r (by omega) (by omega) (by omega)⟩, B, A, B2, A2, nx, EP, E, p, ⟨T.1.k64 K1', ?_, T.L.sc (fun r a b => sA r (by omega) (by omega) (by omega)) rP_lt, T.M.sc (fun r a b => sA r (by omega) (by omega) (by omega)) rH_lt, fun l => ?_⟩, e, ⟨(x3 7).trans P.1, (x3 8).trans P.2.1, ⟨EP', L.sc (fun r _ _ => up r) rP_lt⟩, E', ?_⟩, (Fb.sc (sA 65 (by omega) (by omega) (by omega))).eqD (r 10 (by decide) (by decide)), (O.sc (fun r a b => sA r (by omega) (by omega) (by omega))).eq (f 46 (by decide)) (r 19 (by decide) (by decide)), ?_, (P2.k64 K1' (sA 115 (by omega) (by omega) (by omega)) (sA 116 (by omega) (by omega) (by omega))).eq q9, ?_, K.sc (fun r a => sA r (by omega) (by omega) (by omega)), by omega⟩
  · have t4 := T.f4
    have l01 := T.l01
    refine ⟨x5.trans f17.symm, x6.trans f18.symm, x7.trans f19.symm, ?_, ?_⟩
    · rw [f 1 (by decide)]
      exact (x4 4 (by decide) (by decide) (by decide)).trans t4
    · rw [f 1 (by decide)]
      exact l01
  · rw [f 1 (by decide)] at l
    rw [f 2 (by decide), f 3 (by decide)]
    exact ⟨(T.u l).1, (T.u l).2.eq (fun e a b => f e (by omega)) (fun j a b => r j (by omega) (by omega))⟩
  · rw [g.2.2.2.2.1]
    exact RMK.sc M (fun r _ _ => up r)
  · have s14 := sA 114 (by omega) (by omega) (by omega)
    obtain ⟨⟨u1, u2, u3⟩, u4, u5, u6⟩ := P1
    refine ⟨⟨(x3 9).trans u1, (x4 10 (by decide) (by decide) (by decide)).trans u2, ?_⟩, u4, ?_, s14.k.trans u6.1, s14.l.trans u6.2⟩
    · rw [f 14 (by decide)]
      exact (x4 11 (by decide) (by decide) (by decide)).trans u3
    · rw [f 14 (by decide)]
      exact u5
  · rw [f 14 (by decide)]
    exact (RM.sc (sA 114 (by omega) (by omega) (by omega)) (sA 115 (by omega) (by omega) (by omega)) (fun r a b => sA r b (by omega) (by omega)) (by omega)).less hN (fun i j b => ⟨by rw [q9] at b; exact b, f 2 (by decide), f 3 (by decide), f 4 (by decide), r 8 (by decide) (by decide)⟩)
/-- the text is right -/
theorem CPx.lO {R R' : Nat → Int → Int} {D' : Nat → Int → Int} {s' : Int → Int} (C : CPx h B A B2 A2 nx EP E D s N) (x : LDX h h5 B2 R s) (t : TSP h5 h' B A B2 A2) (z : R 0 25 = 0) (z6 : R 0 26 = -1) (I : RI R') (fR : ∀ e, 30 ≤ e → e ≤ 33 → R' 0 e = R 0 e) (rR : ∀ j, j ≠ 0 → R' j = R j) (eS : s' = bcS R s) (f17 : D' 0 17 = 0) (f18 : D' 0 18 = 0) (f19 : D' 0 19 = -1) (f1' : D' 0 1 = 1) (f14 : D' 0 14 = 0) (f46 : D' 0 46 = D 0 46) (r10 : D' 10 = D 10) (r19 : D' 19 = D 19) (r9 : D' 9 0 = 0 ∧ D' 9 1 = 0) (fb : ∀ e, 2 ≤ e → e ≤ 5 → D' 0 e = bcD R' 0 e) (rb : ∀ j, 1 ≤ j → j ≤ 5 → D' j = bcD R' j) (hN : N ≤ N') : CF h h' ∧ CP h' D' s' N' := by
  obtain ⟨p, T, e, P, Fb, O, P1, P2, RM, K, n1⟩ := C
  have g := p.rg
  obtain ⟨x1, ⟨x2, x3, x4⟩, ⟨x5, x6, x7⟩, x8, EP', E', f1, f2, K1, K2, n8, L, M, NM, GG⟩ := x
  obtain ⟨t1, t2, t3, ⟨t4, t5, t6, t7⟩, t8, ⟨t9, tA⟩, tB, tC, tD⟩ := t
  obtain ⟨⟨g1, g2⟩, gL, gH, gn⟩ := GG z
  have sA : ∀ r, r < hn h → r ≠ 64 → r ≠ 116 → ¬ (B2 ≤ r ∧ r < B2 + 24) → SC h h' r := fun r a b b' c => (x1 r a b c).trans (t1 r b b')
  have sB : ∀ r, r ≠ 64 → r ≠ 116 → SC h5 h' r := t1
  have k64 : h'.2.1 64 = h.2.1 64 := by rw [t3]; exact x2
  have hk64 : hk h' 64 = 7 := by
    have := T.k
    unfold hk at this ⊢
    rw [k64]
    exact this
  have rr : ∀ k, k < 5 ∨ 8 < k → hr h' 64 k = hr h 64 k := fun k a => (t8 k a).trans (x3 k)
  obtain ⟨⟨b2, b3, b4, b5⟩, _⟩ := bc_rows R'
  have M' : RMK h' A2 E' := by
    rw [g.2.2.2.2.1]
    exact RMK.sc M (fun r a b => sB r (by omega) (by omega))
  have U : PT EP' (bcD R') := by
    refine PT_bc I NM ?_ ?_ ?_
    · rw [rR 11 (by decide), fR 31 (by decide) (by decide)]; exact g1
    · rw [rR 12 (by decide), fR 32 (by decide) (by decide)]; exact g2
    · unfold PLr at gL ⊢
      rw [rR 15 (by decide), rR 16 (by decide), rR 17 (by decide)]
      exact gL
  refine ⟨⟨by omega, fun r a b => sA r (by omega) (by omega) (by omega) (by omega)⟩, B2, A2, B, A, nx, EP', E', ?_, ⟨⟨hk64, (rr 0 (by decide)).trans T.r0, t4, t6, (rr 14 (by decide)).trans T.r14⟩, ⟨?_, ?_, ?_, ?_, ?_⟩, L.sc (fun r a b => sB r (by omega) (by omega)) rP_lt, M'.1, fun _ => ?_⟩, M'.2, ⟨t5, t7, ⟨EP, T.L.sc (fun r a b => sA r (by omega) (by omega) (by omega) (by omega)) rP_lt⟩, E, T.M.sc (fun r a b => sA r (by omega) (by omega) (by omega) (by omega)) rH_lt, e⟩, (Fb.sc (sA 65 (by omega) (by omega) (by omega) (by omega))).eqD r10, (O.sc (fun r a b => sA r (by omega) (by omega) (by omega) (by omega))).eq f46 r19, ?_, ?_, ?_, K.sc (fun r a => sA r (by omega) (by omega) (by omega) (by omega)), by omega⟩
  · unfold PLC at p ⊢
    rcases p with p | p <;> omega
  · rw [tB 1 (by decide) (by decide), f17]; exact x5
  · rw [tB 2 (by decide) (by decide), f18, x6, z]
  · rw [tB 3 (by decide) (by decide), f19, x7, z6]
  · rw [t9, f1']
  · exact Or.inr f1'
  · rw [fb 2 (by decide) (by decide), fb 3 (by decide) (by decide), b2, b3, fR 30 (by decide) (by decide), fR 31 (by decide) (by decide), eS]
    exact ⟨gH, U.eq fb rb⟩
  · have s14 := sA 114 (by omega) (by omega) (by omega) (by omega)
    obtain ⟨⟨u1, u2, u3⟩, u4, u5, u6⟩ := P1
    refine ⟨⟨(rr 9 (by decide)).trans u1, ?_, ?_⟩, u4, by omega, s14.k.trans u6.1, s14.l.trans u6.2⟩
    · rw [tB 10 (by decide) (by decide), x4 10 (by decide) (by decide) (by decide)]
      exact u2
    · rw [tA, f14]
  · obtain ⟨w1, w2, w3, w4⟩ := P2
    have s15 := sA 115 (by omega) (by omega) (by omega) (by omega)
    have s16 := x1 116 (by omega) (by omega) (by omega)
    refine ⟨⟨(rr 12 (by decide)).trans w1.1, (rr 13 (by decide)).trans w1.2⟩, ⟨s15.k.trans w2.1, s15.l.trans w2.2⟩, ⟨?_, ?_⟩, fun j a b => ?_⟩
    · have := s16.k.trans w3.1
      unfold hk at this ⊢
      rw [t3]
      exact this
    · have := s16.l.trans w3.2
      unfold hl at this ⊢
      rw [t3]
      exact this
    · have hj : j = 0 ∨ j = 1 := by omega
      rcases hj with rfl | rfl
      · rw [r9.1]
        exact ⟨tC, Or.inl rfl⟩
      · rw [r9.2]
        exact ⟨tD, Or.inl rfl⟩
  · rw [f14]
    refine (RM.sc (sA 114 (by omega) (by omega) (by omega) (by omega)) (sA 115 (by omega) (by omega) (by omega) (by omega)) (fun r a b => sA r b (by omega) (by omega) (by omega)) (by omega)).less hN (fun i j b => ?_)
    rcases b with ⟨b1, _⟩ | ⟨b1, b2', b3', b4'⟩
    · exact absurd b1 (by omega)
    · exfalso
      have hj : (j : Int) - 8 = 0 ∨ (j : Int) - 8 = 1 := by omega
      rcases hj with q | q <;> rw [q] at b4'
      · exact b4' r9.1
      · exact b4' r9.2
/-- the model's rows behind a load whose text is wrong -/
theorem ldE_rows (D : Nat → Int → Int) (n : Int) : (ldE D n 0 18 = rdD (dst D 0 17 0) n 0 25 ∧ ldE D n 0 19 = (if rdD (dst D 0 17 0) n 0 25 = 0 then -1 else rdD (dst D 0 17 0) n 0 26)) ∧ (∀ e, e ≠ 18 → e ≠ 19 → ldE D n 0 e = rdD (dst D 0 17 0) n 0 e) ∧ ∀ j, j ≠ 0 → ldE D n j = rdD (dst D 0 17 0) n j := by
  unfold ldE
  refine ⟨⟨?_, ?_⟩, fun e a b => ?_, fun j a => ?_⟩
  · rw [dst_ne (by decide), dst_eq]
  · rw [dst_eq]
  · rw [dst_ne b, dst_ne a]
  · rw [dst_row a, dst_row a]
theorem bc_ld (D : Nat → Int → Int) (s : Int → Int) (n : Int) (I : RI (rdD (dst D 0 17 0) n)) : bcS (dst (ldE D n) 0 1 1) s = bcS (rdD (dst D 0 17 0) n) s := by
  obtain ⟨_, lf, lr⟩ := ldE_rows D n
  have f : ∀ e, e ≠ 1 → e ≠ 18 → e ≠ 19 → dst (ldE D n) 0 1 1 0 e = rdD (dst D 0 17 0) n 0 e := fun e a b c => by rw [dst_ne a, lf e b c]
  have r : ∀ j, j ≠ 0 → dst (ldE D n) 0 1 1 j = rdD (dst D 0 17 0) n j := fun j a => by rw [dst_row a, lr j a]
  exact bcS_same (f 34 (by decide) (by decide) (by decide)) (f 30 (by decide) (by decide) (by decide)) (f 27 (by decide) (by decide) (by decide)) (f 28 (by decide) (by decide) (by decide)) (f 29 (by decide) (by decide) (by decide)) (fun e _ _ => by rw [r 18 (by decide)]) (r 13 (by decide)) (r 14 (by decide)) I.2.1.1
theorem ldO_rows (D : Nat → Int → Int) (n : Int) : (ldO D n 0 14 = 0 ∧ ldO D n 9 0 = 0 ∧ ldO D n 9 1 = 0 ∧ ldO D n 0 1 = 1) ∧ (∀ e, e ≠ 14 → ldO D n 0 e = bcD (dst (ldE D n) 0 1 1) 0 e) ∧ ∀ j, j ≠ 0 → j ≠ 9 → ldO D n j = bcD (dst (ldE D n) 0 1 1) j := by
  obtain ⟨_, fe, _⟩ := bc_rows (dst (ldE D n) 0 1 1)
  have f : ∀ e, e ≠ 14 → ldO D n 0 e = bcD (dst (ldE D n) 0 1 1) 0 e := fun e a => by
    unfold ldO
    rw [dst_row (by decide), dst_row (by decide), dst_ne a]
  refine ⟨⟨?_, ?_, ?_, ?_⟩, f, fun j a b => ?_⟩
  · unfold ldO
    rw [dst_row (by decide), dst_row (by decide), dst_eq]
  · unfold ldO
    rw [dst_ne (by decide), dst_eq]
  · unfold ldO
    rw [dst_eq]
  · rw [f 1 (by decide), fe 1 (by decide), dst_eq]
  · unfold ldO
    rw [dst_row b, dst_row b, dst_row a]
theorem bse_neg {X : Nat → Int → Int} (V : PIv X) (hS : ∀ i, 0 ≤ i → i < X 0 34 → (0 ≤ X 18 (3 * i) ∧ X 18 (3 * i) < X 0 4) ∧ (0 ≤ X 18 (3 * i + 1) ∧ X 18 (3 * i + 1) < X 0 3) ∧ (0 ≤ X 18 (3 * i + 2) ∧ X 18 (3 * i + 2) ≤ 999)) : ∀ (n : Nat) (k N : Int) (s : Int → Int), HI (X 0 3) (X 0 4) (X 0 2) N s → 0 ≤ k → k + n = X 0 34 → bse X n k s (-1) = s (-1)
  | 0, k, N, s, I, _, _ => rfl
  | n + 1, k, N, s, I, h0, h1 => by
    have q := hS k h0 (by omega)
    have I2 := snd_HI (v := X 18 (3 * k + 2)) (b := -1) I V.1.2 V.2.1 V.2.2.1 q.1 q.2.1 (by omega) (by omega)
    have a := bse_neg V hS n (k + 1) (N + 2) _ I2 (by omega) (by omega)
    exact a.trans (snd_neg I V.1.2 V.2.1 V.2.2.1 q.1 q.2.1 (by omega) (by omega))
theorem bcS_neg {D : Nat → Int → Int} (I : RI D) (st : RS D) (h1 : InR (s (-1))) (h2 : InR (s (-2))) : bcS D s (-1) = s (-1) := by
  obtain ⟨V, J, h34, hS⟩ := BOK_of s I st h1 h2
  have a := bse_neg V hS (bcD D 0 34).toNat 0 0 _ J (by omega) (by omega)
  refine Eq.trans a ?_
  rw [b4_bc, if_neg (by omega), if_neg (by omega), if_neg (by omega), if_neg (by omega), if_neg (by omega), if_neg (by omega)]
theorem WD.eq2 {D D' : Nat → Int → Int} (W : WD D s N) (f : ∀ e, 1 ≤ e → e ≤ 4 → D' 0 e = D 0 e) (r : ∀ j, 3 ≤ j → j ≤ 5 → D' j = D j) : WD D' s N := by
  unfold WD PIv at W ⊢
  rw [f 1 (by decide) (by decide), f 2 (by decide) (by decide), f 3 (by decide) (by decide), f 4 (by decide) (by decide), r 3 (by decide) (by decide), r 4 (by decide) (by decide), r 5 (by decide) (by decide)]
  exact W
theorem BY.rw {D D' : Nat → Int → Int} (B : BY D) (q : D' 10 = D 10) : BY D' := B.of q
theorem CD.lE (G : CD D s N) (hn : 0 ≤ n ∧ n ≤ D 0 17) (z : rdD (dst D 0 17 0) n 0 25 ≠ 0) : CD (ldE D n) s N := by
  obtain ⟨k, P, I, _⟩ := G.rd hn
  obtain ⟨⟨l18, l19⟩, lf, lr⟩ := ldE_rows D n
  have f : ∀ e, e < 17 ∨ e = 46 → ldE D n 0 e = D 0 e := fun e a => by
    rw [lf e (by omega) (by omega), k.2 e (by omega)]
    exact dst_ne (by omega)
  have r : ∀ j, 1 ≤ j → (j ≤ 10 ∨ 19 ≤ j) → ldE D n j = D j := fun j a b => by
    rw [lr j (by omega), k.1 j a b]
    exact dst_row (by omega)
  have e17 : ldE D n 0 17 = 0 := by
    rw [lf 17 (by decide) (by decide), k.2 17 (by decide), dst_eq]
  have p25 := P.e25
  have p26 := P.2.2.2.2.2.2.1
  have h46 := G.h46
  rw [if_neg z] at l19
  refine ⟨G.W.eq2 (fun e a b => f e (by omega)) (fun j a b => r j (by omega) (by omega)), by omega, G.B.of (r 10 (by decide) (by decide)), ⟨?_, ?_, ?_, ?_⟩, I.2.2.2.1.of (lr 13 (by decide)), ⟨G.sw, G.s2⟩, ⟨?_, ?_⟩, ?_, ?_, ?_, ?_⟩
  · rw [r 1 (by decide) (by decide)]; exact G.n1
  · rw [r 2 (by decide) (by decide)]; exact G.n2
  · rw [lr 11 (by decide)]; exact I.1.2.2.1
  · rw [lr 12 (by decide)]; exact I.1.2.2.2
  · rw [l18]; exact ir (by omega) (by omega)
  · rw [l19]; exact ir (by omega) (by omega)
  · rw [f 46 (by decide)]; exact h46
  · rw [f 46 (by decide), r 19 (by decide) (by decide)]; exact G.tx
  · rw [f 14 (by decide)]; exact G.c
  · rw [r 9 (by decide) (by decide)]; exact G.f9
/-- what is known of the rows behind a load -/
theorem ldO_all (G : CD D s N) (hn : 0 ≤ n ∧ n ≤ D 0 17) : RI (dst (ldE D n) 0 1 1) ∧ (∀ e, 20 ≤ e → e ≤ 46 → dst (ldE D n) 0 1 1 0 e = rdD (dst D 0 17 0) n 0 e) ∧ (∀ j, j ≠ 0 → dst (ldE D n) 0 1 1 j = rdD (dst D 0 17 0) n j) ∧ (ldO D n 0 17 = 0 ∧ ldO D n 0 46 = D 0 46 ∧ ldO D n 10 = D 10 ∧ ldO D n 19 = D 19) ∧ (ldO D n 0 18 = rdD (dst D 0 17 0) n 0 25 ∧ ldO D n 0 19 = (if rdD (dst D 0 17 0) n 0 25 = 0 then -1 else rdD (dst D 0 17 0) n 0 26)) ∧ (∀ e, 2 ≤ e → e ≤ 5 → ldO D n 0 e = bcD (dst (ldE D n) 0 1 1) 0 e) ∧ (∀ j, 1 ≤ j → j ≠ 9 → ldO D n j = bcD (dst (ldE D n) 0 1 1) j) ∧ ldO D n 11 = rdD (dst D 0 17 0) n 11 ∧ ldO D n 12 = rdD (dst D 0 17 0) n 12 ∧ ldO D n 13 = rdD (dst D 0 17 0) n 13 ∧ ∀ e, ¬ (0 ≤ e ∧ e < 42) → ldO D n 2 e = D 2 e := by
  obtain ⟨k, P, I, _⟩ := G.rd hn
  obtain ⟨⟨l18, l19⟩, lf, lr⟩ := ldE_rows D n
  obtain ⟨_, of, oj⟩ := ldO_rows D n
  obtain ⟨_, fe, _, _, _, _, rj⟩ := bc_rows (dst (ldE D n) 0 1 1)
  have IE : RI (dst (ldE D n) 0 1 1) := by unfold ldE; exact ((I.f (by decide)).f (by decide)).f (by decide)
  have f : ∀ e, 20 ≤ e → e ≤ 46 → dst (ldE D n) 0 1 1 0 e = rdD (dst D 0 17 0) n 0 e := fun e a b => by rw [dst_ne (by omega), lf e (by omega) (by omega)]
  have r : ∀ j, j ≠ 0 → dst (ldE D n) 0 1 1 j = rdD (dst D 0 17 0) n j := fun j a => by rw [dst_row a, lr j a]
  have big : ∀ j, 10 ≤ j → ldO D n j = rdD (dst D 0 17 0) n j := fun j a => by rw [oj j (by omega) (by omega), rj j (by omega), r j (by omega)]
  refine ⟨IE, f, r, ⟨?_, ?_, ?_, ?_⟩, ⟨?_, ?_⟩, fun e a b => of e (by omega), fun j a b => oj j (by omega) b, big 11 (by decide), big 12 (by decide), big 13 (by decide), fun e a => ?_⟩
  · rw [of 17 (by decide), fe 17 (by decide), dst_ne (by decide), lf 17 (by decide) (by decide), k.2 17 (by decide), dst_eq]
  · rw [of 46 (by decide), fe 46 (by decide), dst_ne (by decide), lf 46 (by decide) (by decide), k.2 46 (by decide), dst_ne (by decide)]
  · rw [big 10 (by decide), k.1 10 (by decide) (by decide), dst_row (by decide)]
  · rw [big 19 (by decide), k.1 19 (by decide) (by decide), dst_row (by decide)]
  · rw [of 18 (by decide), fe 18 (by decide), dst_ne (by decide), l18]
  · rw [of 19 (by decide), fe 19 (by decide), dst_ne (by decide), l19]
  · rw [oj 2 (by decide) (by decide), bc2 _ a, r 2 (by decide), k.1 2 (by decide) (by decide), dst_row (by decide)]
theorem CD.lO (G : CD D s N) (hn : 0 ≤ n ∧ n ≤ D 0 17) (z : rdD (dst D 0 17 0) n 0 25 = 0) (hN : N ≤ N') (h100 : 100 ≤ N') (hM : N' ≤ 1990000000) : CD (ldO D n) (bcS (dst (ldE D n) 0 1 1) s) N' := by
  obtain ⟨k, P, I, zz⟩ := G.rd hn
  obtain ⟨st, z26⟩ := zz z
  obtain ⟨IE, f, r, ⟨o17, o46, o10, o19⟩, ⟨o18, o19'⟩, of, oj, o11, o12, o13, o2⟩ := ldO_all G hn
  obtain ⟨⟨p14, p90, p91, p1⟩, _⟩ := ldO_rows D n
  obtain ⟨⟨g2, g3, g4, g5⟩, fe, q1, q2, q34, q5, rj⟩ := bc_rows (dst (ldE D n) 0 1 1)
  have SE : RS (dst (ldE D n) 0 1 1) := by
    unfold RS
    rw [f 27 (by decide) (by decide), f 28 (by decide) (by decide), f 29 (by decide) (by decide), f 30 (by decide) (by decide)]
    exact st
  have i1 : InR (s (-1)) := by rw [G.sw]; exact ir (by omega) (by omega)
  obtain ⟨V, J⟩ := bcS_HI IE SE i1 G.s2
  have sw := (bcS_neg IE SE i1 G.s2).trans G.sw
  have h46 := G.h46
  obtain ⟨⟨i31, i32, n11, n12⟩, _⟩ := IE
  rw [if_pos z] at o19'
  have e1 := J.e1
  refine ⟨⟨Or.inr p1, ?_, ?_, hM, ⟨e1.1, by omega⟩, fun _ => ⟨?_, ?_, sw⟩⟩, by omega, G.B.of o10, ⟨fun e a b => ?_, fun e a b => ?_, ?_, ?_⟩, I.2.2.2.1.of o13, ⟨sw, J.ho.2.2.2.2⟩, ⟨?_, ?_⟩, by omega, ?_, by omega, fun j a b => ?_⟩
  · rw [of 3 (by decide) (by decide), g3]; exact i31
  · rw [of 4 (by decide) (by decide), g4]; exact i32
  · rw [of 2 (by decide) (by decide), of 3 (by decide) (by decide), of 4 (by decide) (by decide)]
    exact J.mono h100
  · exact V.eq3 (of 2 (by decide) (by decide)) (of 3 (by decide) (by decide)) (of 4 (by decide) (by decide)) (oj 3 (by decide) (by decide)) (oj 4 (by decide) (by decide)) (oj 5 (by decide) (by decide))
  · rw [oj 1 (by decide) (by decide), q1 e a b]
    exact n11 e a b
  · by_cases c : 0 ≤ e ∧ e < 42
    · rw [oj 2 (by decide) (by decide), q2 e c.1 c.2]
      exact n12 e a b
    · rw [o2 e c]
      exact G.n2 e a b
  · rw [o11]; exact I.1.2.2.1
  · rw [o12]; exact I.1.2.2.2
  · rw [o18, z]; exact ir (by omega) (by omega)
  · rw [o19']; exact ir (by omega) (by omega)
  · rw [o46, o19]; exact G.tx
  · have hj : j = 0 ∨ j = 1 := by omega
    rcases hj with rfl | rfl
    · exact Or.inl p90
    · exact Or.inl p91
/-- the class's load, seen from the whole object -/
theorem C_load {d : Nat} {Q : Int → PH → Prop} {X : Nat → PH → Prop} (C : CP h D s N) (G : CD D s N) (hvn : InR n) (hN : N ≤ N')
    (H : ∀ h', 0 ≤ n ∧ n ≤ D 0 17 → rdD (dst D 0 17 0) n 0 25 = 0 → CF h h' → CP h' (ldO D n) (bcS (dst (ldE D n) 0 1 1) s) N' → Q (ldO D n 0 4) h')
    (HX1 : ∀ h', ¬ (0 ≤ n ∧ n ≤ D 0 17) → CF h h' → CP h' D s N' → X 2 h')
    (HX2 : ∀ h', 0 ≤ n ∧ n ≤ D 0 17 → rdD (dst D 0 17 0) n 0 25 ≠ 0 → CF h h' → CP h' (ldE D n) s N' → X 1 h') : RUN GQ (d + 12) m_X6_load [pA 64, pI n] h Q X := by
  obtain ⟨B, A, B2, A2, nx, EP, E, C⟩ := C
  have Cc := C
  obtain ⟨p, T, e, P, Fb, O, P1, P2, RM, K, n1⟩ := Cc
  have g := p.rg
  have pl : B2 = 66 ∨ B2 = 90 := by rcases p with p | p <;> omega
  obtain ⟨t1, t2, ⟨EP2, t3⟩, E2, t4⟩ := P
  have eA : A2 = B2 + 10 := g.2.2.2.2.1
  rw [eA] at t2 t4
  refine S_X6_load T pl t1 t2 t3 t4.1 t4.2.1 t4.2.2 Fb G.B G.n11 G.n12 G.k G.h17 K.1 K.2.1 P2.1.2 P2.2.2.1 G.sw G.s2 n1 hvn (fun hn z h5 h' x t => ?_) (fun hn n' q => ?_) (fun hn z h5 n' x q => ?_)
  · obtain ⟨k, PR', I, zz⟩ := G.rd hn
    obtain ⟨st, z26⟩ := zz z
    obtain ⟨IE, f, r, ⟨o17, o46, o10, o19⟩, ⟨o18, o19'⟩, of, oj, _⟩ := ldO_all G hn
    obtain ⟨⟨p14, p90, p91, p1'⟩, _⟩ := ldO_rows D n
    have g4 : ldO D n 0 4 = rdD (dst D 0 17 0) n 0 32 := by
      rw [of 4 (by decide) (by decide), (bc_rows (dst (ldE D n) 0 1 1)).1.2.2.1, f 32 (by decide) (by decide)]
    rw [if_pos z] at o19'
    rw [← eA] at t
    have q := C.lO (R' := dst (ldE D n) 0 1 1) (s' := bcS (dst (ldE D n) 0 1 1) s) (D' := ldO D n) x t z z26 IE (fun e a b => f e (by omega) (by omega)) r (bc_ld D s n I) o17 (o18.trans z) o19' p1' p14 o46 o10 o19 ⟨p90, p91⟩ of (fun j a b => oj j a (by omega)) hN
    rw [← g4]
    exact H h' hn z q.1 q.2
  · have u := C.up (n' := n') q hN
    exact HX1 _ hn u.1 u.2
  · obtain ⟨k, PR', I, zz⟩ := G.rd hn
    obtain ⟨⟨l18, l19⟩, lf, lr⟩ := ldE_rows D n
    rw [if_neg z] at l19
    have u := C.lE (D' := ldE D n) (n' := n') x q (by rw [lf 17 (by decide) (by decide), k.2 17 (by decide), dst_eq]) l18 l19 (fun e a => by rw [lf e (by omega) (by omega), k.2 e (by omega)]; exact dst_ne (by omega)) (fun j a b => by rw [lr j (by omega), k.1 j a b]; exact dst_row (by omega)) hN
    exact HX2 _ hn z u.1 u.2
end LDS
