/-! what the hall becomes, line by line -/
theorem HR.gen {E E' : Nat → Int → Int} {C K K' : Int} {s s' : Int → Int} (R : HR E C K s) (S : SM K s s') (hE : ∀ j, j ≠ 2 → j ≠ 4 → E' j = E j) (h2 : HRk E' K' s') (h4 : Rw 4 85 6 E' s') (hq : ∀ p, 0 ≤ p → p < 6 → s (115 + p) ≤ 13) (hs : ∀ p, 0 ≤ p → p < 6 → s (511 + p) ≤ 4) : HR E' C K' s' := by
  obtain ⟨r0, ⟨a1, a2, a3, a4, a5, a6, a7, a8⟩, rq, rs, re, rf⟩ := R
  refine ⟨?_, ⟨a1.of (hE 1 (by decide) (by decide)) (fun i _ _ => S.at (by omega) (by omega)), h2, a3.of (hE 3 (by decide) (by decide)) (fun i _ _ => S.at (by omega) (by omega)), h4, a5.of (hE 5 (by decide) (by decide)) (fun i _ _ => S.at (by omega) (by omega)), a6.of (hE 7 (by decide) (by decide)) (fun i _ _ => S.at (by omega) (by omega)), a7.of (hE 10 (by decide) (by decide)) (fun i _ _ => S.at (by omega) (by omega)), a8.of (hE 12 (by decide) (by decide)) (fun i _ _ => S.at (by omega) (by omega))⟩,
    rq.of (hE 8 (by decide) (by decide)) (fun i _ _ => S.at (by omega) (by omega)) hq, rs.of (hE 11 (by decide) (by decide)) (fun i _ _ => S.at (by omega) (by omega)) hs, re.of (hE 13 (by decide) (by decide)) (fun i _ _ => S.at (by omega) (by omega)) (S.at (by omega) (by omega)), ?_⟩
  · unfold HRo
    rw [hE 6 (by decide) (by decide), hE 9 (by decide) (by decide), hE 1 (by decide) (by decide)]
    exact r0
  · unfold HRf
    rw [hE 0 (by decide) (by decide), S.at (e := 2) (by omega) (by omega), S.at (e := 0) (by omega) (by omega), S.at (e := 1) (by omega) (by omega), S.at (e := 3) (by omega) (by omega), S.at (e := -1) (by omega) (by omega), S.at (e := -2) (by omega) (by omega)]
    exact rf
section BC
variable {D D' : Nat → Int → Int} {s : Int → Int}
theorem bcS_as (D : Nat → Int → Int) (s : Int → Int) : bcS D s = bse (bcD D) (D 0 34).toNat 0 (b4 (bcD D) s) := by
  unfold bcS
  rw [(bc_rows D).2.1 34 (by decide)]
theorem b4_bc (D : Nat → Int → Int) (s : Int → Int) (e : Int) : b4 (bcD D) s e = if 85 ≤ e ∧ e < 91 then D 14 (e - 85) else if 13 ≤ e ∧ e < 37 then D 13 (e - 13) else if e = 12 then D 0 29 else if e = 11 then D 0 28 else if e = 10 then D 0 27 else if 0 ≤ e ∧ e < 861 then 0 else s e := by
  obtain ⟨_, fe, _, _, _, _, rj⟩ := bc_rows D
  rw [b4_at, rj 14 (by decide), rj 13 (by decide), fe 29 (by decide), fe 28 (by decide), fe 27 (by decide)]
theorem HI_b0 (I : RI D) (st : RS D) (h1 : InR (s (-1))) (h2 : InR (s (-2))) {K P c : Int} (hP : 0 ≤ P) (hK : 0 ≤ K ∧ K ≤ 8) (hc : 0 ≤ c ∧ c ≤ 12) : HI K P c 0 (b4 (bcD D) s) := by
  obtain ⟨_, fe, _, _, _, _, rj⟩ := bc_rows D
  refine HI_b4 s hP hK hc (I.k.of (rj 13 (by decide))) (by rw [rj 14 (by decide)]; exact I.m) ?_ h1 h2
  unfold RS
  rw [fe 27 (by decide), fe 28 (by decide), fe 29 (by decide), fe 30 (by decide)]
  exact st
theorem bcS_same (e34 : D' 0 34 = D 0 34) (e30 : D' 0 30 = D 0 30) (e27 : D' 0 27 = D 0 27) (e28 : D' 0 28 = D 0 28) (e29 : D' 0 29 = D 0 29) (e18 : ∀ e, 0 ≤ e → e < 3 * D 0 34 → D' 18 e = D 18 e) (e13 : D' 13 = D 13) (e14 : D' 14 = D 14) (h34 : 0 ≤ D 0 34) : bcS D' s = bcS D s := by
  have b : b4 (bcD D') s = b4 (bcD D) s := by
    funext e
    rw [b4_bc, b4_bc, e13, e14, e27, e28, e29]
  rw [bcS_as, bcS_as, e34, b]
  refine bse_D (by rw [(bc_rows D').1.1, (bc_rows D).1.1, e30]) _ 0 _ (fun e a c => ?_)
  rw [(bc_rows D').2.2.2.2.2.2 18 (by decide), (bc_rows D).2.2.2.2.2.2 18 (by decide)]
  exact e18 e (by omega) (by omega)
theorem bc_two (I : RI D) (I' : RI D') (st : RS D) (st' : RS D') (h1 : InR (s (-1))) (h2 : InR (s (-2))) (e34 : D' 0 34 = D 0 34) (e30 : D' 0 30 = D 0 30) (e27 : D' 0 27 = D 0 27) (e28 : D' 0 28 = D 0 28) (e29 : D' 0 29 = D 0 29) (e18 : D' 18 = D 18) (e13 : ∀ e, 0 ≤ e → e < 3 * D 0 31 → D' 13 e = D 13 e) :
    SM (D 0 31) (bcS D s) (bcS D' s) ∧ ∀ e, (13 ≤ e ∧ e < 37) ∨ (85 ≤ e ∧ e < 91) → bcS D s e = b4 (bcD D) s e ∧ bcS D' s e = b4 (bcD D') s e := by
  obtain ⟨⟨g2, g3, g4, g5⟩, fe, _, _, _, _, rj⟩ := bc_rows D
  have h34 := I.h34
  have k31 := I.K.1
  have k32 := I.K.2.1
  have c30 := st.2.2.2
  rw [bcS_as, bcS_as, e34]
  have q : bse (bcD D') (D 0 34).toNat 0 (b4 (bcD D') s) = bse (bcD D) (D 0 34).toNat 0 (b4 (bcD D') s) := by
    refine bse_D (by rw [(bc_rows D').1.1, g2, e30]) _ 0 _ (fun e a c => ?_)
    rw [(bc_rows D').2.2.2.2.2.2 18 (by decide), rj 18 (by decide), e18]
  rw [q]
  refine bse_SM (by rw [g2]; omega) k31 k32 _ 0 0 0 _ _ (fun i a c => ?_) (by rw [g2]; exact HI_b0 I st h1 h2 k32.1 k31 (by omega)) (by rw [g2]; exact HI_b0 I' st' h1 h2 k32.1 k31 (by omega)) (fun e z => ?_)
  · rw [rj 18 (by decide)]
    exact I.s i a (by omega)
  · unfold ZK at z
    rw [b4_bc, b4_bc, e27, e28, e29]
    by_cases c1 : 85 ≤ e ∧ e < 91
    · exact absurd (Or.inr c1) z
    · rw [if_neg c1, if_neg c1]
      by_cases c2 : 13 ≤ e ∧ e < 37
      · rw [if_pos c2, if_pos c2]
        exact e13 _ (by omega) (by omega)
      · rw [if_neg c2, if_neg c2]
theorem bcS_HI (I : RI D) (st : RS D) (h1 : InR (s (-1))) (h2 : InR (s (-2))) : PIv (bcD D) ∧ HI (bcD D 0 3) (bcD D 0 4) (bcD D 0 2) 100 (bcS D s) := by
  obtain ⟨V, J, h34, hS⟩ := BOK_of s I st h1 h2
  refine ⟨V, ?_⟩
  have := bse_HI V hS (bcD D 0 34).toNat 0 0 _ J (by omega) (by omega)
  exact this.mono (by omega)
end BC
/-- what the lines keep: while there is no error -/
def PLr (EP D : Nat → Int → Int) : Prop := (∀ e, 0 ≤ e → e < 48 → EP 7 e = D 15 e ∧ EP 8 e = D 16 e) ∧ ∀ g i w, 0 ≤ g → g < 48 → 0 ≤ i → i < D 16 g → 0 ≤ w → w < 4 → EP 9 ((g * 4 + i) * 4 + w) = D 17 (4 * (4 * g + i) + w)
def GD (D EP E : Nat → Int → Int) (f1 f2 : Int → Int) (K1 K2 : Int) (s : Int → Int) (n8 : Int) : Prop := ((f1 = D 11 ∧ K1 = D 0 31) ∧ f2 = D 12 ∧ K2 = D 0 32) ∧ PLr EP D ∧ HR E (D 0 30) (D 0 31) (bcS D s) ∧ n8 = D 0 34
def LNR (h0 h : PH) (p b : Nat) (D : Nat → Int → Int) (s : Int → Int) : Prop := ∃ ES EP E f1 f2 K1 K2, PWs h0 h p b ES EP E D f1 f2 K1 K2 ∧ (D 0 25 = 0 → GD D EP E f1 f2 K1 K2 s (ES 0 8))
