/-! the class's object, whole, against the model's rows -/
def PLC (B A B2 A2 : Nat) : Prop := (B = 66 ∧ A = 76 ∧ B2 = 90 ∧ A2 = 100) ∨ (B = 90 ∧ A = 100 ∧ B2 = 66 ∧ A2 = 76)
theorem PLC.ab {B A B2 A2 : Nat} (p : PLC B A B2 A2) : DAB A B := by
  unfold DAB
  rcases p with p | p <;> omega
theorem PLC.dj {B A B2 A2 : Nat} (p : PLC B A B2 A2) : DJ A2 A B := by
  unfold DJ
  rcases p with p | p <;> omega
theorem PLC.dx {B A B2 A2 : Nat} (p : PLC B A B2 A2) : DO A B := by
  unfold DO
  rcases p with p | p <;> omega
theorem PLC.rg {B A B2 A2 : Nat} (p : PLC B A B2 A2) : (66 ≤ A ∧ A + 14 ≤ 114) ∧ (66 ≤ B ∧ B + 10 ≤ 114) ∧ (66 ≤ A2 ∧ A2 + 14 ≤ 114) ∧ (66 ≤ B2 ∧ B2 + 10 ≤ 114) ∧ A2 = B2 + 10 ∧ A = B + 10 ∧ (B2 + 24 ≤ B ∨ B + 24 ≤ B2) := by
  rcases p with p | p <;> omega
/-- what the class never changes -/
def KN (h : PH) : Prop := WRD h ∧ SG h ∧ STR h 10 [104, 102, 97, 113, 110, 100]
theorem KN.sc {h h' : PH} (K : KN h) (S : ∀ r, r < 64 → SC h h' r) : KN h' := by
  obtain ⟨k1, k2, w1, w2, w3, w4⟩ := K
  have s := S 10 (by omega)
  exact ⟨k1.sc (fun r a b => S r (by omega)), k2.sc (fun r a b => S r (by omega)), s.k.trans w1, s.l.trans w2, fun i x y => ((s.2 _).1).trans (w3 i x y), w4⟩
def SPR (h : PH) (B2 A2 : Nat) : Prop := hr h 64 7 = B2 ∧ hr h 64 8 = A2 ∧ (∃ EP, Px B2 h h EP) ∧ ∃ E, RMK h A2 E
def OUT (h : PH) (D : Nat → Int → Int) : Prop := ∃ EO, Ox 117 h h EO ∧ EO 0 1 = D 0 46 ∧ ∀ e : Int, 0 ≤ e → e < D 0 46 → EO 1 e = D 19 e
def CPx (h : PH) (B A B2 A2 nx : Nat) (EP E D : Nat → Int → Int) (s : Int → Int) (N : Int) : Prop :=
  PLC B A B2 A2 ∧ FT h B A EP E D s ∧ (E 6 0 = 13 ∧ E 9 0 = 4) ∧ SPR h B2 A2 ∧ BFR h D ∧ OUT h D ∧ PST h D nx ∧ PSS h D ∧ RR h D nx (D 0 14).toNat N ∧ KN h ∧ 141 ≤ hn h
def CP (h : PH) (D : Nat → Int → Int) (s : Int → Int) (N : Int) : Prop := ∃ B A B2 A2 nx EP E, CPx h B A B2 A2 nx EP E D s N
theorem rO_lt : ∀ q ∈ rO, q.1 < 2 := by decide
theorem FT.sc {h h' : PH} {B A : Nat} {EP E D : Nat → Int → Int} {s : Int → Int} (T : FT h B A EP E D s) (S : SC h h' 64) (SB : ∀ r, B ≤ r → r < B + 10 → SC h h' r) (SA : ∀ r, A ≤ r → r < A + 14 → SC h h' r) : FT h' B A EP E D s := by
  obtain ⟨t1, t2, t3, t4, t5⟩ := T
  refine ⟨?_, ?_, t3.sc SB rP_lt, t4.sc SA rH_lt, t5⟩
  · unfold XC at t1 ⊢
    rw [S.k, (S.2 0).2, (S.2 5).2, (S.2 6).2, (S.2 14).2]
    exact t1
  · unfold XI at t2 ⊢
    rw [(S.2 1).1, (S.2 2).1, (S.2 3).1, (S.2 4).1]
    exact t2
theorem SPR.sc {h h' : PH} {B2 A2 : Nat} (T : SPR h B2 A2) (S : SC h h' 64) (SB : ∀ r, B2 ≤ r → r < B2 + 10 → SC h h' r) (SA : ∀ r, A2 ≤ r → r < A2 + 14 → SC h h' r) : SPR h' B2 A2 := by
  obtain ⟨t1, t2, ⟨EP, t3⟩, E, t4⟩ := T
  exact ⟨(S.2 7).2.trans t1, (S.2 8).2.trans t2, ⟨EP, t3.sc SB rP_lt⟩, E, t4.sc SA⟩
theorem BFR.sc {h h' : PH} {D : Nat → Int → Int} (F : BFR h D) (S : SC h h' 65) : BFR h' D := ⟨S.k.trans F.1, S.l.trans F.2.1, fun e x y => (S.2 _).1.trans (F.2.2 e x y)⟩
theorem OUT.sc {h h' : PH} {D : Nat → Int → Int} (F : OUT h D) (S : ∀ r, 117 ≤ r → r < 119 → SC h h' r) : OUT h' D := by
  obtain ⟨EO, O, o1, o2⟩ := F
  exact ⟨EO, O.sc (fun r a b => S r a b) rO_lt, o1, o2⟩
theorem PST.sc {h h' : PH} {D : Nat → Int → Int} {nx : Nat} (F : PST h D nx) (S : SC h h' 64) (S2 : SC h h' 114) : PST h' D nx := by
  unfold PST at F ⊢
  rw [(S.2 9).2, (S.2 10).1, (S.2 11).1, S2.k, S2.l]
  exact F
theorem PSS.sc {h h' : PH} {D : Nat → Int → Int} (F : PSS h D) (S : SC h h' 64) (S2 : SC h h' 115) (S3 : SC h h' 116) : PSS h' D := by
  obtain ⟨f1, f2, f3, f4⟩ := F
  exact ⟨⟨(S.2 12).2.trans f1.1, (S.2 13).2.trans f1.2⟩, ⟨S2.k.trans f2.1, S2.l.trans f2.2⟩, ⟨S3.k.trans f3.1, S3.l.trans f3.2⟩, fun j a b => ⟨(S3.2 _).1.trans (f4 j a b).1, (f4 j a b).2⟩⟩
theorem RR.mono {h : PH} {D : Nat → Int → Int} {nx cnt : Nat} {N N' : Int} (R : RR h D nx cnt N) (hN : N ≤ N') : RR h D nx cnt N' := R.less hN (fun i j b => ⟨b, rfl, rfl, rfl, rfl⟩)
theorem CPx.sc {h h' : PH} {B A B2 A2 nx : Nat} {EP E D : Nat → Int → Int} {s : Int → Int} {N N' : Int} (C : CPx h B A B2 A2 nx EP E D s N) (S : ∀ r, r < hn h → ¬ (119 ≤ r ∧ r < 141) → SC h h' r) (n : hn h ≤ hn h') (hN : N ≤ N') : CPx h' B A B2 A2 nx EP E D s N' := by
  obtain ⟨p, T, e, P, F, O, P1, P2, R, K, n1⟩ := C
  have g := p.rg
  have S' : ∀ r, r < 119 → SC h h' r := fun r a => S r (by omega) (by omega)
  exact ⟨p, T.sc (S' 64 (by omega)) (fun r a b => S' r (by omega)) (fun r a b => S' r (by omega)), e, P.sc (S' 64 (by omega)) (fun r a b => S' r (by omega)) (fun r a b => S' r (by omega)), F.sc (S' 65 (by omega)), O.sc (fun r a b => S' r (by omega)), P1.sc (S' 64 (by omega)) (S' 114 (by omega)), P2.sc (S' 64 (by omega)) (S' 115 (by omega)) (S' 116 (by omega)), (R.sc (S' 114 (by omega)) (S' 115 (by omega)) (fun r a b => S r b (by omega)) n).mono hN, K.sc (fun r a => S' r (by omega)), by omega⟩
theorem CP.sc {h h' : PH} {D : Nat → Int → Int} {s : Int → Int} {N N' : Int} (C : CP h D s N) (S : ∀ r, r < hn h → ¬ (119 ≤ r ∧ r < 141) → SC h h' r) (n : hn h ≤ hn h') (hN : N ≤ N') : CP h' D s N' := by
  obtain ⟨B, A, B2, A2, nx, EP, E, C⟩ := C
  exact ⟨B, A, B2, A2, nx, EP, E, C.sc S n hN⟩
theorem CP.n {h : PH} {D : Nat → Int → Int} {s : Int → Int} {N : Int} (C : CP h D s N) : 141 ≤ hn h := by
  obtain ⟨B, A, B2, A2, nx, EP, E, C⟩ := C
  exact C.2.2.2.2.2.2.2.2.2.2
theorem FT.eq {h : PH} {B A : Nat} {EP E D D' : Nat → Int → Int} {s : Int → Int} (T : FT h B A EP E D s) (q0 : D' 0 = D 0) (q1 : D' 1 = D 1) (q2 : D' 2 = D 2) (q3 : D' 3 = D 3) (q4 : D' 4 = D 4) (q5 : D' 5 = D 5) : FT h B A EP E D' s := by
  unfold FT XI PT PRr at T ⊢
  rw [q0, q1, q2, q3, q4, q5]
  exact T
theorem CP.eq {h : PH} {D D' : Nat → Int → Int} {s : Int → Int} {N : Int} (C : CP h D s N) (q : ∀ j, j ≠ 7 → D' j = D j) : CP h D' s N := by
  obtain ⟨B, A, B2, A2, nx, EP, E, p, T, e, P, F, O, P1, P2, R, K, n1⟩ := C
  have q0 := q 0 (by decide)
  have q9 := q 9 (by decide)
  refine ⟨B, A, B2, A2, nx, EP, E, p, T.eq q0 (q 1 (by decide)) (q 2 (by decide)) (q 3 (by decide)) (q 4 (by decide)) (q 5 (by decide)), e, P, F.eqD (q 10 (by decide)), ?_, ?_, ?_, ?_, K, n1⟩
  · unfold OUT at O ⊢
    rw [q0, q 19 (by decide)]
    exact O
  · unfold PST at P1 ⊢
    rw [q0]
    exact P1
  · unfold PSS at P2 ⊢
    rw [q9]
    exact P2
  · rw [q0]
    exact R.less (Int.le_refl _) (fun i j b => ⟨by rw [q9] at b; exact b, by rw [q0], by rw [q0], by rw [q0], q 8 (by decide)⟩)
/-- what holds of the model's rows between the calls -/
def CD (D : Nat → Int → Int) (s : Int → Int) (N : Int) : Prop := WD D s N ∧ (0 ≤ D 0 17 ∧ D 0 17 ≤ 700) ∧ BY D ∧ (NB (D 1) ∧ NB (D 2) ∧ NB (D 11) ∧ NB (D 12)) ∧ RIk D ∧ (s (-1) = -1 ∧ InR (s (-2))) ∧ (InR (D 0 18) ∧ InR (D 0 19)) ∧ (0 ≤ D 0 46 ∧ D 0 46 ≤ 400) ∧ (∀ e, 0 ≤ e → e < D 0 46 → InR (D 19 e)) ∧ (0 ≤ D 0 14 ∧ D 0 14 ≤ 8) ∧ ∀ j, 0 ≤ j → j < 2 → D 9 j = 0 ∨ D 9 j = 1
section CDS
variable {D : Nat → Int → Int} {s : Int → Int} {N : Int}
theorem CD.W (G : CD D s N) : WD D s N := G.1
theorem CD.h17 (G : CD D s N) : 0 ≤ D 0 17 ∧ D 0 17 ≤ 700 := G.2.1
theorem CD.B (G : CD D s N) : BY D := G.2.2.1
theorem CD.n1 (G : CD D s N) : NB (D 1) := G.2.2.2.1.1
theorem CD.n2 (G : CD D s N) : NB (D 2) := G.2.2.2.1.2.1
theorem CD.n11 (G : CD D s N) : NB (D 11) := G.2.2.2.1.2.2.1
theorem CD.n12 (G : CD D s N) : NB (D 12) := G.2.2.2.1.2.2.2
theorem CD.k (G : CD D s N) : RIk D := G.2.2.2.2.1
theorem CD.sw (G : CD D s N) : s (-1) = -1 := G.2.2.2.2.2.1.1
theorem CD.s2 (G : CD D s N) : InR (s (-2)) := G.2.2.2.2.2.1.2
theorem CD.h18 (G : CD D s N) : InR (D 0 18) := G.2.2.2.2.2.2.1.1
theorem CD.h19 (G : CD D s N) : InR (D 0 19) := G.2.2.2.2.2.2.1.2
theorem CD.h46 (G : CD D s N) : 0 ≤ D 0 46 ∧ D 0 46 ≤ 400 := G.2.2.2.2.2.2.2.1
theorem CD.tx (G : CD D s N) : ∀ e, 0 ≤ e → e < D 0 46 → InR (D 19 e) := G.2.2.2.2.2.2.2.2.1
theorem CD.c (G : CD D s N) : 0 ≤ D 0 14 ∧ D 0 14 ≤ 8 := G.2.2.2.2.2.2.2.2.2.1
theorem CD.f9 (G : CD D s N) : ∀ j, 0 ≤ j → j < 2 → D 9 j = 0 ∨ D 9 j = 1 := G.2.2.2.2.2.2.2.2.2.2
theorem CD.nm (G : CD D s N) : NMv D := fun e a b => by
  have := G.n1 e a b
  omega
end CDS
theorem PIv.eq3 {D D' : Nat → Int → Int} (V : PIv D) (q2 : D' 0 2 = D 0 2) (q3' : D' 0 3 = D 0 3) (q4' : D' 0 4 = D 0 4) (q3 : D' 3 = D 3) (q4 : D' 4 = D 4) (q5 : D' 5 = D 5) : PIv D' := by
  unfold PIv at V ⊢
  rw [q2, q3', q4', q3, q4, q5]
  exact V
theorem WD.mono {D : Nat → Int → Int} {s : Int → Int} {N N' : Int} (W : WD D s N) (hN : N ≤ N') (hM : N' ≤ 1990000000) : WD D s N' := by
  obtain ⟨w1, w2, w3, w4, w5, w6⟩ := W
  exact ⟨w1, w2, w3, hM, ⟨w5.1, by omega⟩, fun c => ⟨(w6 c).1.mono hN, (w6 c).2⟩⟩
theorem CD.mono {D : Nat → Int → Int} {s : Int → Int} {N N' : Int} (G : CD D s N) (hN : N ≤ N') (hM : N' ≤ 1990000000) : CD D s N' := ⟨G.1.mono hN hM, G.2⟩
theorem CD.eq {D D' : Nat → Int → Int} {s : Int → Int} {N : Int} (G : CD D s N) (q : ∀ j, j ≠ 7 → D' j = D j) : CD D' s N := by
  have q0 := q 0 (by decide)
  unfold CD WD BY RIk PIv at G ⊢
  rw [q0, q 1 (by decide), q 2 (by decide), q 3 (by decide), q 4 (by decide), q 5 (by decide), q 9 (by decide), q 10 (by decide), q 11 (by decide), q 12 (by decide), q 13 (by decide), q 19 (by decide)]
  exact G
