/-! what a call does to the class's object -/
/-- the cells that the class doesn't own stay -/
def CF (h h' : PH) : Prop := hn h ≤ hn h' ∧ ∀ r, r < 141 → ¬ (64 ≤ r ∧ r < 119) → SC h h' r
theorem CF.refl (h : PH) : CF h h := ⟨Nat.le_refl _, fun r _ _ => SC.refl h r⟩
theorem CF.trans {h1 h2 h3 : PH} (a : CF h1 h2) (b : CF h2 h3) : CF h1 h3 := ⟨Nat.le_trans a.1 b.1, fun r x y => (a.2 r x y).trans (b.2 r x y)⟩
def K64 (h h' : PH) : Prop := h'.2.1 64 = h.2.1 64 ∧ ∀ k, hr h' 64 k = hr h 64 k
theorem K64.k {h h' : PH} (K : K64 h h') : hk h' 64 = hk h 64 := by
  unfold hk
  rw [K.1]
theorem XC.k64 {h h' : PH} {B A : Nat} (C : XC h B A) (K : K64 h h') : XC h' B A := by
  unfold XC at C ⊢
  rw [K.k, K.2, K.2, K.2, K.2]
  exact C
theorem SPR.k64 {h h' : PH} {B2 A2 : Nat} (T : SPR h B2 A2) (K : K64 h h') (SB : ∀ r, B2 ≤ r → r < B2 + 10 → SC h h' r) (SA : ∀ r, A2 ≤ r → r < A2 + 14 → SC h h' r) : SPR h' B2 A2 := by
  obtain ⟨t1, t2, ⟨EP, t3⟩, E, t4⟩ := T
  exact ⟨(K.2 7).trans t1, (K.2 8).trans t2, ⟨EP, t3.sc SB rP_lt⟩, E, t4.sc SA⟩
theorem PSS.k64 {h h' : PH} {D : Nat → Int → Int} (F : PSS h D) (K : K64 h h') (S2 : SC h h' 115) (S3 : SC h h' 116) : PSS h' D := by
  obtain ⟨f1, f2, f3, f4⟩ := F
  exact ⟨⟨(K.2 12).trans f1.1, (K.2 13).trans f1.2⟩, ⟨S2.k.trans f2.1, S2.l.trans f2.2⟩, ⟨S3.k.trans f3.1, S3.l.trans f3.2⟩, fun j a b => ⟨(S3.2 _).1.trans (f4 j a b).1, (f4 j a b).2⟩⟩
theorem OUT.eq {h : PH} {D D' : Nat → Int → Int} (O : OUT h D) (q : D' 0 46 = D 0 46) (q' : D' 19 = D 19) : OUT h D' := by
  unfold OUT at O ⊢
  rw [q, q']
  exact O
theorem PSS.eq {h : PH} {D D' : Nat → Int → Int} (F : PSS h D) (q : D' 9 = D 9) : PSS h D' := by
  unfold PSS at F ⊢
  rw [q]
  exact F
theorem PT.eq {EP D D' : Nat → Int → Int} (U : PT EP D) (f : ∀ e, 2 ≤ e → e ≤ 5 → D' 0 e = D 0 e) (r : ∀ j, 1 ≤ j → j ≤ 5 → D' j = D j) : PT EP D' := by
  unfold PT PRr at U ⊢
  rw [f 3 (by decide) (by decide), f 4 (by decide) (by decide), f 5 (by decide) (by decide), r 1 (by decide) (by decide), r 2 (by decide) (by decide), r 3 (by decide) (by decide), r 4 (by decide) (by decide), r 5 (by decide) (by decide)]
  exact U
theorem FT.eq2 {h : PH} {B A : Nat} {EP E D D' : Nat → Int → Int} {s : Int → Int} (T : FT h B A EP E D s) (f : ∀ e, (1 ≤ e ∧ e ≤ 5) ∨ (17 ≤ e ∧ e ≤ 19) → D' 0 e = D 0 e) (r : ∀ j, 1 ≤ j → j ≤ 5 → D' j = D j) : FT h B A EP E D' s := by
  obtain ⟨t1, t2, t3, t4, t5⟩ := T
  refine ⟨t1, ?_, t3, t4, fun l => ?_⟩
  · unfold XI at t2 ⊢
    rw [f 17 (by decide), f 18 (by decide), f 19 (by decide), f 1 (by decide)]
    exact t2
  · rw [f 1 (by decide)] at l
    rw [f 2 (by decide), f 3 (by decide)]
    exact ⟨(t5 l).1, (t5 l).2.eq (fun e a b => f e (by omega)) r⟩
section CPST
variable {h h1 h' : PH} {B A B2 A2 nx a : Nat} {EP E F E' D D' : Nat → Int → Int} {s s' : Int → Int} {N N' : Int}
theorem CPx.up (C : CPx h B A B2 A2 nx EP E D s N) {n' : Nat} (n : hn h ≤ n') (hN : N ≤ N') : CF h (hup h n') ∧ CP (hup h n') D s N' :=
  ⟨⟨n, fun r _ _ => SC.refl h r⟩, B, A, B2, A2, nx, EP, E, C.sc (fun r _ _ => SC.refl h r) n hN⟩
theorem CPx.rem (C : CPx h B A B2 A2 nx EP E D s N) (W : WD D s N) (l : D 0 1 ≠ 0) (b : RMB h h1 nx a (D 0 14)) (G : RMK h1 a F) (RF : HR F (D 0 2) (D 0 3) s) (ha : 141 ≤ a ∧ a + 14 ≤ hn h1) (M : Hx A h1 h' E') (R : HR E' (D 0 2) (D 0 3) s') (hN : N ≤ N') : CF h h' ∧ CP h' (kpA D s) s' N' := by
  obtain ⟨p, T, e, P, Fb, O, P1, P2, RM, K, n1⟩ := C
  have g := p.rg
  have sM : ∀ r, ¬ (A ≤ r ∧ r < A + 14) → SC h1 h' r := fun r x => M.2.1.sc x
  have sB : ∀ r, r < 141 → r ≠ 64 → r ≠ 114 → SC h h1 r := fun r x y z => b.sc ha.1 n1 x y z
  have sA : ∀ r, r < 141 → r ≠ 64 → r ≠ 114 → ¬ (A ≤ r ∧ r < A + 14) → SC h h' r := fun r x y z w => (sB r x y z).trans (sM r w)
  have T1 := T.rem b ha.1 n1 p.ab
  obtain ⟨I, V, sw⟩ := W.2.2.2.2.2 l
  have nh : hn h' = hn h1 := M.2.1.1
  have n2 : hn h ≤ hn h1 := by rcases b.1 with q | q <;> omega
  have s64 := sM 64 (by omega)
  have K1 : K64 h h' := ⟨s64.1.trans b.2.2.1.1, fun k => (s64.2 k).2.trans (b.2.2.1.2.1 k)⟩
  have kf : ∀ e : Int, e ≠ 14 → kpA D s 0 e = D 0 e := fun e q => kpA_0 D s q
  have kr : ∀ j, j ≠ 0 → j ≠ 8 → kpA D s j = D j := fun j q1 q2 => kpA_row D s q1 q2
  have c := P1.2.2.1
  refine ⟨⟨by omega, fun r x y => sA r x (by omega) (by omega) (by omega)⟩, B, A, B2, A2, if nx < 7 then nx + 1 else 0, EP, E', p, ⟨T.1.k64 K1, ?_, T.L.sc (fun r x y => sA r (by omega) (by omega) (by omega) (by omega)) rP_lt, M.now, fun _ => ?_⟩, ⟨R.r6, R.r9⟩, P.k64 K1 (fun r x y => sA r (by omega) (by omega) (by omega) (by omega)) (fun r x y => sA r (by omega) (by omega) (by omega) (by omega)), ?_, ?_, ?_, ?_, ?_, K.sc (fun r x => sA r (by omega) (by omega) (by omega) (by omega)), by omega⟩
  · have t2 := T1.2.1
    unfold XI at t2 ⊢
    rw [(s64.2 1).1, (s64.2 2).1, (s64.2 3).1, (s64.2 4).1, kf 17 (by decide), kf 18 (by decide), kf 19 (by decide), kf 1 (by decide)]
    exact t2
  · rw [kf 2 (by decide), kf 3 (by decide)]
    exact ⟨R, (T.u l).2.eq (fun e x y => kf e (by omega)) (fun j x y => kr j (by omega) (by omega))⟩
  · exact (Fb.sc (sA 65 (by omega) (by omega) (by omega) (by omega))).eqD (kr 10 (by decide) (by decide))
  · exact (O.sc (fun r x y => sA r (by omega) (by omega) (by omega) (by omega))).eq (kf 46 (by decide)) (kr 19 (by decide) (by decide))
  · have c4 := b.2.2.2
    have q9 := P1.1.1
    have q14 := P1.2.2.2
    have k1 : hk h1 114 = hk h 114 := by unfold hk; rw [c4.1]
    have l1 : hl h1 114 = hl h 114 := by unfold hl; rw [c4.1]
    have s14 := sM 114 (by omega)
    have e14 : kpA D s 0 14 = if D 0 14 < 8 then D 0 14 + 1 else 8 := by
      rw [kpA_14]
      split <;> split <;> omega
    refine ⟨⟨(K1.2 9).trans q9, ?_, ?_⟩, by split <;> omega, by rw [e14]; split <;> omega, (s14.k.trans k1).trans q14.1, (s14.l.trans l1).trans q14.2⟩
    · rw [(s64.2 10).1, b.2.2.1.2.2.2.1]
      by_cases z : nx < 7
      · rw [if_pos (by omega), if_pos z]; omega
      · rw [if_neg (by omega), if_neg z]; omega
    · rw [(s64.2 11).1, b.2.2.1.2.2.2.2, e14]
  · exact (P2.k64 K1 (sA 115 (by omega) (by omega) (by omega) (by omega)) (sA 116 (by omega) (by omega) (by omega) (by omega))).eq (kr 9 (by decide) (by decide))
  · have q := RM.rem hN P1.2.1 c n1 b G ha RF I W.2.1.1 W.2.2.1.1 sw
    exact q.sc (sM 114 (by omega)) (sM 115 (by omega)) (fun r x y => sM r (by omega)) (by omega)
theorem CPx.spare (C : CPx h B A B2 A2 nx EP E D s N) (M : Hx A2 h h' E') (e6 : E' 6 0 = 13) (e9 : E' 9 0 = 4) (hN : N ≤ N') : CF h h' ∧ CP h' D s N' := by
  obtain ⟨p, T, e, P, Fb, O, P1, P2, RM, K, n1⟩ := C
  have g := p.rg
  have sA : ∀ r, ¬ (A2 ≤ r ∧ r < A2 + 14) → SC h h' r := fun r w => M.2.1.sc w
  have nh : hn h' = hn h := M.2.1.1
  have s64 := sA 64 (by omega)
  obtain ⟨t1, t2, ⟨EP2, t3⟩, E2, t4⟩ := P
  refine ⟨⟨by omega, fun r x y => sA r (by omega)⟩, B, A, B2, A2, nx, EP, E, p, T.sc s64 (fun r x y => sA r (by omega)) (fun r x y => sA r (by omega)), e, ⟨(s64.2 7).2.trans t1, (s64.2 8).2.trans t2, ⟨EP2, t3.sc (fun r x y => sA r (by omega)) rP_lt⟩, E', M.now, e6, e9⟩, Fb.sc (sA 65 (by omega)), O.sc (fun r x y => sA r (by omega)), P1.sc s64 (sA 114 (by omega)), P2.sc s64 (sA 115 (by omega)) (sA 116 (by omega)), (RM.sc (sA 114 (by omega)) (sA 115 (by omega)) (fun r x y => sA r (by omega)) (by omega)).mono hN, K.sc (fun r x => sA r (by omega)), by omega⟩
theorem CPx.text {EO : Nat → Int → Int} {l : List Int} (C : CPx h B A B2 A2 nx EP E D s N) (M : Ox 117 h h' EO) (t : TXO EO l) (x : TX D D' l) (hN : N ≤ N') : CF h h' ∧ CP h' D' s N' := by
  obtain ⟨p, T, e, P, Fb, O, P1, P2, RM, K, n1⟩ := C
  have g := p.rg
  have sA : ∀ r, ¬ (117 ≤ r ∧ r < 117 + 2) → SC h h' r := fun r w => M.2.1.sc w
  have nh : hn h' = hn h := M.2.1.1
  have s64 := sA 64 (by omega)
  obtain ⟨x1, x2, x3, x4⟩ := x
  have q14 : D' 0 14 = D 0 14 := x4 14 (by decide)
  have q9 : D' 9 = D 9 := x3 9 (by decide) (by decide)
  refine ⟨⟨by omega, fun r x y => sA r (by omega)⟩, B, A, B2, A2, nx, EP, E, p, (T.sc s64 (fun r x y => sA r (by omega)) (fun r x y => sA r (by omega))).eq2 (fun e q => x4 e (by omega)) (fun j u v => x3 j (by omega) (by omega)), e, P.sc s64 (fun r x y => sA r (by omega)) (fun r x y => sA r (by omega)), (Fb.sc (sA 65 (by omega))).eqD (x3 10 (by decide) (by decide)), ⟨EO, M.now, ?_, fun e a b => ?_⟩, ?_, (P2.sc s64 (sA 115 (by omega)) (sA 116 (by omega))).eq q9, ?_, K.sc (fun r x => sA r (by omega)), by omega⟩
  · rw [t.1, x1]
  · obtain ⟨i, rfl⟩ : ∃ i : Nat, e = i := ⟨e.toNat, by omega⟩
    rw [t.2 i (by omega), x2 i (by omega)]
  · have q := P1.sc s64 (sA 114 (by omega))
    unfold PST at q ⊢
    rw [q14]
    exact q
  · rw [q14]
    exact (RM.sc (sA 114 (by omega)) (sA 115 (by omega)) (fun r x y => sA r (by omega)) (by omega)).less hN (fun i j b => ⟨by rw [q9] at b; exact b, x4 2 (by decide), x4 3 (by decide), x4 4 (by decide), x3 8 (by decide) (by decide)⟩)
/-- the buffer alone -/
theorem CPx.buf (C : CPx h B A B2 A2 nx EP E D s N) {v : Int} (x : BFX h h' v) (Fb' : BFR h' D') (f17 : D' 0 17 = v) (f : ∀ e, e ≠ 17 → D' 0 e = D 0 e) (r : ∀ j, j ≠ 0 → j ≠ 10 → D' j = D j) (hN : N ≤ N') : CF h h' ∧ CP h' D' s N' := by
  obtain ⟨p, T, e, P, Fb, O, P1, P2, RM, K, n1⟩ := C
  have g := p.rg
  obtain ⟨x1, x2, x3, x4, x5, x6⟩ := x
  have sA : ∀ r, r ≠ 64 → r ≠ 65 → SC h h' r := x1
  have K1 : K64 h h' := ⟨by rw [x3], fun k => x4 64 k⟩
  have q14 : D' 0 14 = D 0 14 := f 14 (by decide)
  have q9 : D' 9 = D 9 := r 9 (by decide) (by decide)
  refine ⟨⟨by omega, fun r x y => sA r (by omega) (by omega)⟩, B, A, B2, A2, nx, EP, E, p, ⟨T.1.k64 K1, ?_, T.L.sc (fun r x y => sA r (by omega) (by omega)) rP_lt, T.M.sc (fun r x y => sA r (by omega) (by omega)) rH_lt, fun l => ?_⟩, e, P.k64 K1 (fun r x y => sA r (by omega) (by omega)) (fun r x y => sA r (by omega) (by omega)), Fb', (O.sc (fun r x y => sA r (by omega) (by omega))).eq (f 46 (by decide)) (r 19 (by decide) (by decide)), ?_, (P2.k64 K1 (sA 115 (by omega) (by omega)) (sA 116 (by omega) (by omega))).eq q9, ?_, K.sc (fun r x => sA r (by omega) (by omega)), by omega⟩
  · have t2 := T.2.1
    unfold XI at t2 ⊢
    rw [x6, x5 2 (by decide), x5 3 (by decide), x5 4 (by decide), f17, f 18 (by decide), f 19 (by decide), f 1 (by decide)]
    exact ⟨rfl, t2.2⟩
  · rw [f 1 (by decide)] at l
    rw [f 2 (by decide), f 3 (by decide)]
    exact ⟨(T.u l).1, (T.u l).2.eq (fun e a b => f e (by omega)) (fun j a b => r j (by omega) (by omega))⟩
  · unfold PST at P1 ⊢
    have s14 := sA 114 (by omega) (by omega)
    rw [K1.2, x5 10 (by decide), x5 11 (by decide), s14.k, s14.l, q14]
    exact P1
  · rw [q14]
    exact (RM.sc (sA 114 (by omega) (by omega)) (sA 115 (by omega) (by omega)) (fun r x y => sA r (by omega) (by omega)) (by omega)).less hN (fun i j b => ⟨by rw [q9] at b; exact b, f 2 (by decide), f 3 (by decide), f 4 (by decide), r 8 (by decide) (by decide)⟩)
/-- what was kept comes back into the hall -/
theorem CPx.back (C : CPx h B A B2 A2 nx EP E D s N) {c' : Int} {nx' : Nat} (K2 : K64 h h') (i1 : ∀ k, k ≠ 10 → k ≠ 11 → hi h' 64 k = hi h 64 k) (sA : ∀ r, r ≠ 64 → ¬ (A ≤ r ∧ r < A + 14) → SC h h' r) (nh : hn h' = hn h) (M : Hx A h' h' (cpE F E)) (k10 : hi h' 64 10 = nx') (k11 : hi h' 64 11 = c') (hnx : nx' < 8) (hc' : 0 ≤ c' ∧ c' ≤ D 0 14) (RF : HR F (D 0 2) (D 0 3) s') (I : HI (D 0 3) (D 0 4) (D 0 2) N s') (sw : s' (-1) = -1) (hol' : ∀ i j, hol nx' c'.toNat (D 9) i j → hol nx (D 0 14).toNat (D 9) i j) (hN : N ≤ N') : CF h h' ∧ CP h' (dst D 0 14 c') s' N' := by
  obtain ⟨p, T, e, P, Fb, O, P1, P2, RM, K, n1⟩ := C
  have g := p.rg
  have f : ∀ e : Int, e ≠ 14 → dst D 0 14 c' 0 e = D 0 e := fun e q => dst_ne q
  have r : ∀ j, j ≠ 0 → dst D 0 14 c' j = D j := fun j q => dst_row q
  have q14 : dst D 0 14 c' 0 14 = c' := dst_eq _ _ _ _
  have sz := HI_sz I
  have R' : HR (cpE F E) (D 0 2) (D 0 3) s' := cpE_HR RF e.1 e.2 sz.1 sz.2 sw
  refine ⟨⟨by omega, fun r x y => sA r (by omega) (by omega)⟩, B, A, B2, A2, nx', EP, cpE F E, p, ⟨T.1.k64 K2, ?_, T.L.sc (fun r x y => sA r (by omega) (by omega)) rP_lt, M, fun l => ?_⟩, ⟨R'.r6, R'.r9⟩, P.k64 K2 (fun r x y => sA r (by omega) (by omega)) (fun r x y => sA r (by omega) (by omega)), (Fb.sc (sA 65 (by omega) (by omega))).eqD (r 10 (by decide)), (O.sc (fun r x y => sA r (by omega) (by omega))).eq (f 46 (by decide)) (r 19 (by decide)), ?_, (P2.k64 K2 (sA 115 (by omega) (by omega)) (sA 116 (by omega) (by omega))).eq (r 9 (by decide)), ?_, K.sc (fun r x => sA r (by omega) (by omega)), by omega⟩
  · have t2 := T.2.1
    unfold XI at t2 ⊢
    rw [i1 1 (by decide) (by decide), i1 2 (by decide) (by decide), i1 3 (by decide) (by decide), i1 4 (by decide) (by decide), f 17 (by decide), f 18 (by decide), f 19 (by decide), f 1 (by decide)]
    exact t2
  · rw [f 1 (by decide)] at l
    rw [f 2 (by decide), f 3 (by decide)]
    exact ⟨R', (T.u l).2.eq (fun e a b => f e (by omega)) (fun j a b => r j (by omega))⟩
  · have s14 := sA 114 (by omega) (by omega)
    have c := P1.2.2.1
    rw [PST, q14]
    exact ⟨⟨(K2.2 9).trans P1.1.1, k10, k11⟩, hnx, ⟨hc'.1, by omega⟩, s14.k.trans P1.2.2.2.1, s14.l.trans P1.2.2.2.2⟩
  · rw [q14]
    exact (RM.sc (sA 114 (by omega) (by omega)) (sA 115 (by omega) (by omega)) (fun r x y => sA r (by omega) (by omega)) (by omega)).less hN (fun i j b => ⟨by rw [r 9 (by decide)] at b; exact hol' i j b, f 2 (by decide), f 3 (by decide), f 4 (by decide), r 8 (by decide)⟩)
/-- the row that comes back -/
theorem scp_S {j : Nat} {o : Int} (k : KPT F D j N) (ho : o = 861 * (j : Int)) (sw : s (-1) = -1) (s2 : InR (s (-2))) : HR F (D 0 2) (D 0 3) (scp o (D 8) 861 0 s) ∧ HI (D 0 3) (D 0 4) (D 0 2) N (scp o (D 8) 861 0 s) ∧ scp o (D 8) 861 0 s (-1) = -1 ∧ InR (scp o (D 8) 861 0 s (-2)) := by
  have a1 : scp o (D 8) 861 0 s (-1) = -1 := by rw [scp_at, if_neg (by omega)]; exact sw
  have a2 : InR (scp o (D 8) 861 0 s (-2)) := by rw [scp_at, if_neg (by omega)]; exact s2
  have q := k (scp o (D 8) 861 0 s) (fun e x y => by rw [scp_at, if_pos (by omega), ho]) a1 a2
  exact ⟨q.1, q.2, a1, a2⟩
theorem CPx.undo (C : CPx h B A B2 A2 nx EP E D s N) (us : US h h1 (if nx = 0 then 7 else nx - 1) (D 0 14 - 1)) (M : Hx A h1 h' (cpE F E)) (k : KPT F D ((D 0 14).toNat - 1) N) (c : D 0 14 ≠ 0) (sw : s (-1) = -1) (s2 : InR (s (-2))) (hN : N ≤ N') : CF h h' ∧ CP h' (dst D 0 14 (D 0 14 - 1)) (scp (861 * (D 0 14 - 1)) (D 8) 861 0 s) N' := by
  have g := C.1.rg
  obtain ⟨u1, u2, u3, u4, u5, u6, u7⟩ := us
  have P1 := C.2.2.2.2.2.2.1
  have hc := P1.2.2.1
  have hnx := P1.2.1
  have sM : ∀ r, ¬ (A ≤ r ∧ r < A + 14) → SC h1 h' r := fun r x => M.2.1.sc x
  have q64 := sM 64 (by omega)
  obtain ⟨r1, r2, r3, r4⟩ := scp_S (o := 861 * (D 0 14 - 1)) k (by omega) sw s2
  refine C.back (F := F) ⟨q64.1.trans u3, fun k => (q64.2 k).2.trans (u4 k)⟩ (fun k a b => (q64.2 k).1.trans (u5 k a b)) (fun r x y => (u1 r x).trans (sM r y)) (M.2.1.1.trans u2) M.now ((q64.2 10).1.trans u6) ((q64.2 11).1.trans u7) (by split <;> omega) (by omega) r1 r2 r3 (fun i j b => ?_) hN
  rcases b with ⟨b1, b2⟩ | b
  · refine Or.inl ⟨by omega, ?_⟩
    rw [b2]
    split <;> omega
  · exact Or.inr b
theorem CPx.rest (C : CPx h B A B2 A2 nx EP E D s N) {j : Int} (hj : 0 ≤ j ∧ j ≤ 1) (M : Hx A h h1 (cpE F E)) (k : KPT F D (8 + j.toNat) N) (sw : s (-1) = -1) (s2 : InR (s (-2))) (hN : N ≤ N') : (CF h (hsi h1 64 11 0) ∧ CP (hsi h1 64 11 0) (dst D 0 14 0) (scp (861 * (8 + j)) (D 8) 861 0 s) N') ∧ F 0 10 = scp (861 * (8 + j)) (D 8) 861 0 s 0 := by
  have g := C.1.rg
  have P1 := C.2.2.2.2.2.2.1
  have hc := P1.2.2.1
  have hnx := P1.2.1
  have sM : ∀ r, ¬ (A ≤ r ∧ r < A + 14) → SC h h1 r := fun r x => M.2.1.sc x
  have q64 := sM 64 (by omega)
  obtain ⟨r1, r2, r3, r4⟩ := scp_S (o := 861 * (8 + j)) k (by omega) sw s2
  have sH : ∀ r, r ≠ 64 → SC h1 (hsi h1 64 11 0) r := fun r x => ⟨rfl, fun k => ⟨by rw [hi_hsi, if_neg (by omega)], rfl⟩⟩
  refine ⟨C.back (F := F) ⟨q64.1, fun k => (q64.2 k).2⟩ (fun k a b => ?_) (fun r x y => (sM r y).trans (sH r x)) M.2.1.1 (M.now.sc (fun r x y => sH r (by omega)) rH_lt) ?_ ?_ hnx (by omega) r1 r2 r3 (fun i j b => ?_) hN, r1.fl.2.1⟩
  · rw [hi_hsi, if_neg (by omega)]
    exact (q64.2 k).1
  · rw [hi_hsi, if_neg (by omega)]
    exact (q64.2 10).1.trans P1.1.2.1
  · rw [hi_hsi, if_pos ⟨rfl, rfl⟩]
  · rcases b with ⟨b1, b2⟩ | b
    · exact absurd b1 (by omega)
    · exact Or.inr b
/-- what is held once a hall is saved -/
theorem RR.sav {cnt j : Nat} (R : RR h D nx cnt N) (hN : N ≤ N') (hj : j < 2) (hcnt : cnt ≤ 8) (n : 141 ≤ hn h) (B : SVB h h' j a) (G : RMK h' a F) (ha : 141 ≤ a ∧ a + 14 ≤ hn h') (RF : HR F (D 0 2) (D 0 3) s) (I : HI (D 0 3) (D 0 4) (D 0 2) N s) (hK : 0 ≤ D 0 3) (hP : 0 ≤ D 0 4) (sw : s (-1) = -1) (f2 : D' 0 2 = D 0 2) (f3 : D' 0 3 = D 0 3) (f4 : D' 0 4 = D 0 4) (q8 : ∀ e, D' 8 e = if 861 * (8 + (j : Int)) ≤ e ∧ e < 861 * (8 + (j : Int)) + 861 then s (e - 861 * (8 + (j : Int))) else D 8 e) (q9 : ∀ i : Int, i ≠ j → D' 9 i = D 9 i) : RR h' D' nx cnt N' := by
  obtain ⟨b1, b2, b3, b4, b5⟩ := B
  have S4 : SC h h' 114 := b2 114 (by omega) (by omega) (by omega) (by omega)
  have e : ∀ i, i < 10 → rho h' i = if i = 8 + j then a else rho h i := by
    intro i _
    unfold rho
    by_cases c : i < 8
    · rw [if_pos c, if_pos c, if_neg (by omega)]
      exact (S4.2 i).2
    · rw [if_neg c, if_neg c, b3.2.2 (i - 8)]
      by_cases z : i = 8 + j
      · rw [if_pos z, if_pos (by omega)]
      · rw [if_neg z, if_neg (by omega)]
  have hn' : hn h ≤ hn h' := by rcases b1 with q | q <;> omega
  have r0 : rho h (8 + j) = hr h 115 j := by
    unfold rho
    rw [if_neg (by omega), show 8 + j - 8 = j by omega]
  have far : ∀ i, i < 10 → i ≠ 8 + j → rho h i ≠ 0 → rho h i + 14 ≤ a ∨ a + 14 ≤ rho h i := by
    intro i h10 hi' h0
    rcases b1 with ⟨q1, q2, q3⟩ | ⟨q1, q2, q3⟩
    · have := R.2.1 i (8 + j) h10 (by omega) hi' h0 (by rw [r0]; exact q1)
      rw [r0] at this
      omega
    · rcases R.1 i h10 with r | r
      · exact absurd r h0
      · omega
  have hl1 : ∀ i k, i < 10 → hol nx cnt (D' 9) i k → (i = 8 + j ∧ k = 8 + j) ∨ (i ≠ 8 + j ∧ k ≠ 8 + j ∧ hol nx cnt (D 9) i k) := by
    intro i k h10 q
    rcases q with ⟨q1, q2⟩ | ⟨q1, q2, q3, q4⟩
    · exact Or.inr ⟨by omega, by omega, Or.inl ⟨q1, q2⟩⟩
    · by_cases z : k = 8 + j
      · exact Or.inl ⟨by omega, z⟩
      · exact Or.inr ⟨by omega, z, Or.inr ⟨q1, q2, q3, by rw [q9 _ (by omega)] at q4; exact q4⟩⟩
  refine ⟨fun i h10 => ?_, fun i k hi hk' hne r1 r2 => ?_, fun i k h10 q => ?_⟩
  · rw [e i h10]
    by_cases z : i = 8 + j
    · rw [if_pos z]
      refine Or.inr ⟨ha.1, ha.2, F, G, fun k q => ?_⟩
      rcases hl1 i k h10 q with ⟨_, q2⟩ | ⟨q1, _⟩
      · refine KPT.of (I.mono hN) RF hK hP sw f2 f3 f4 (fun e x y => ?_)
        rw [q8, if_pos (by omega)]
        exact congrArg s (by omega)
      · exact absurd z q1
    · rw [if_neg z]
      rcases R.1 i h10 with r | ⟨r1, r2, F', r3, r4⟩
      · exact Or.inl r
      · have fa := far i h10 z (by omega)
        refine Or.inr ⟨r1, by omega, F', r3.sc (fun r x y => b2 r (by omega) (by omega) (by omega) (by omega)), fun k q => ?_⟩
        rcases hl1 i k h10 q with ⟨q1, _⟩ | ⟨_, q1, q2⟩
        · exact absurd q1 z
        · refine ((r4 k q2).mono hN).to f2 f3 f4 (fun e x y => ?_)
          rw [q8, if_neg (by omega)]
  · rw [e i hi] at r1 ⊢
    rw [e k hk'] at r2 ⊢
    by_cases z : i = 8 + j
    · rw [if_pos z] at r1 ⊢
      rw [if_neg (by omega)] at r2 ⊢
      have := far k hk' (by omega) r2
      omega
    · rw [if_neg z] at r1 ⊢
      by_cases z2 : k = 8 + j
      · rw [if_pos z2] at r2 ⊢
        exact far i hi z r1
      · rw [if_neg z2] at r2 ⊢
        exact R.2.1 i k hi hk' hne r1 r2
  · rw [e i h10]
    by_cases z : i = 8 + j
    · rw [if_pos z]; omega
    · rw [if_neg z]
      rcases hl1 i k h10 q with ⟨q1, _⟩ | ⟨_, q1, q2⟩
      · exact absurd q1 z
      · exact R.2.2 i k h10 q2
theorem CPx.save (C : CPx h B A B2 A2 nx EP E D s N) (W : WD D s N) (l : D 0 1 ≠ 0) {j : Int} (hj : 0 ≤ j ∧ j ≤ 1) (b : SVB h h' j.toNat a) (G : RMK h' a F) (RF : HR F (D 0 2) (D 0 3) s) (ha : 141 ≤ a ∧ a + 14 ≤ hn h') (hN : N ≤ N') : CF h h' ∧ CP h' (dst (dcp 8 (861 * (8 + j)) s 861 0 D) 9 j 1) s N' := by
  obtain ⟨p, T, e, P, Fb, O, P1, P2, RM, K, n1⟩ := C
  have g := p.rg
  have n2 : hn h ≤ hn h' := by rcases b.1 with q | q <;> omega
  have sA : ∀ r, r < 141 → r ≠ 115 → r ≠ 116 → SC h h' r := fun r x y z => b.2.1 r (by omega) y z (by omega)
  obtain ⟨I, V, sw⟩ := W.2.2.2.2.2 l
  have r : ∀ j', j' ≠ 8 → j' ≠ 9 → dst (dcp 8 (861 * (8 + j)) s 861 0 D) 9 j 1 j' = D j' := fun j' q q' => by rw [dst_row q', dcp_row q]
  have r8 : ∀ e', dst (dcp 8 (861 * (8 + j)) s 861 0 D) 9 j 1 8 e' = if 861 * (8 + j) ≤ e' ∧ e' < 861 * (8 + j) + 861 then s (e' - 861 * (8 + j)) else D 8 e' := fun e' => by
    rw [dst_row (by decide), dcp_eq]
    unfold srow
    rw [if_pos rfl]
    by_cases z : 861 * (8 + j) ≤ e' ∧ e' < 861 * (8 + j) + 861
    · rw [if_pos (by omega), if_pos z]
    · rw [if_neg (by omega), if_neg z]
  have r9 : ∀ i, i ≠ j → dst (dcp 8 (861 * (8 + j)) s 861 0 D) 9 j 1 9 i = D 9 i := fun i q => by rw [dst_ne q, dcp_row (by decide)]
  have q0 := r 0 (by decide) (by decide)
  have c := P1.2.2.1
  refine ⟨⟨n2, fun r x y => sA r x (by omega) (by omega)⟩, B, A, B2, A2, nx, EP, E, p, (T.sc (sA 64 (by omega) (by omega) (by omega)) (fun r x y => sA r (by omega) (by omega) (by omega)) (fun r x y => sA r (by omega) (by omega) (by omega))).eq q0 (r 1 (by decide) (by decide)) (r 2 (by decide) (by decide)) (r 3 (by decide) (by decide)) (r 4 (by decide) (by decide)) (r 5 (by decide) (by decide)), e, P.sc (sA 64 (by omega) (by omega) (by omega)) (fun r x y => sA r (by omega) (by omega) (by omega)) (fun r x y => sA r (by omega) (by omega) (by omega)), (Fb.sc (sA 65 (by omega) (by omega) (by omega))).eqD (r 10 (by decide) (by decide)), (O.sc (fun r x y => sA r (by omega) (by omega) (by omega))).eq (by rw [q0]) (r 19 (by decide) (by decide)), ?_, ?_, ?_, K.sc (fun r x => sA r (by omega) (by omega) (by omega)), by omega⟩
  · have q := P1.sc (sA 64 (by omega) (by omega) (by omega)) (sA 114 (by omega) (by omega) (by omega))
    unfold PST at q ⊢
    rw [q0]
    exact q
  · obtain ⟨f1, f2, f3, f4⟩ := P2
    have s64 := sA 64 (by omega) (by omega) (by omega)
    have b3 := b.2.2.1.1
    have b4 := b.2.2.2.1
    refine ⟨⟨(s64.2 12).2.trans f1.1, (s64.2 13).2.trans f1.2⟩, ⟨?_, ?_⟩, ⟨?_, ?_⟩, fun i x y => ?_⟩
    · have := f2.1; unfold hk at this ⊢; rw [b3]; exact this
    · have := f2.2; unfold hl at this ⊢; rw [b3]; exact this
    · have := f3.1; unfold hk at this ⊢; rw [b4]; exact this
    · have := f3.2; unfold hl at this ⊢; rw [b4]; exact this
    · rw [b.2.2.2.2]
      by_cases z : i = j
      · rw [if_pos (by omega), z, dst_eq]
        exact ⟨rfl, Or.inr rfl⟩
      · rw [if_neg (by omega), r9 i z]
        exact f4 i x y
  · have q14 : dst (dcp 8 (861 * (8 + j)) s 861 0 D) 9 j 1 0 14 = D 0 14 := by rw [q0]
    rw [q14]
    refine RM.sav hN (j := j.toNat) (by omega) (by omega) n1 b G ha RF I W.2.1.1 W.2.2.1.1 sw (by rw [q0]) (by rw [q0]) (by rw [q0]) (fun e' => ?_) (fun i q => r9 i (by omega))
    rw [r8, show ((j.toNat : Nat) : Int) = j by omega]
end CPST
