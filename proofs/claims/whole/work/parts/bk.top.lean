/-! all of the class's object against the model's rows -/
theorem HR.seq {E : Nat → Int → Int} {C K : Int} {s s' : Int → Int} (R : HR E C K s) (q : SEq s s') (w : s (-1) = -1) (hq : ∀ p, 0 ≤ p → p < 6 → s (115 + p) ≤ 13) (hs : ∀ p, 0 ≤ p → p < 6 → s (511 + p) ≤ 4) : HR E C K s' :=
  ⟨R.1, ⟨R.2.1.1.of rfl (fun i _ _ => q.1 i (by omega) (by omega)), R.2.1.2.1.of rfl (fun i _ _ => q.1 i (by omega) (by omega)), R.2.1.2.2.1.of rfl (fun i _ _ => q.1 i (by omega) (by omega)), R.2.1.2.2.2.1.of rfl (fun i _ _ => q.1 i (by omega) (by omega)), R.2.1.2.2.2.2.1.of rfl (fun i _ _ => q.1 i (by omega) (by omega)), R.2.1.2.2.2.2.2.1.of rfl (fun i _ _ => q.1 i (by omega) (by omega)), R.2.1.2.2.2.2.2.2.1.of rfl (fun i _ _ => q.1 i (by omega) (by omega)), R.2.1.2.2.2.2.2.2.2.of rfl (fun i _ _ => q.1 i (by omega) (by omega))⟩,
    R.2.2.1.of rfl (fun i _ _ => q.1 i (by omega) (by omega)) hq, R.2.2.2.1.of rfl (fun i _ _ => q.1 i (by omega) (by omega)) hs, R.2.2.2.2.1.of rfl (fun i _ _ => q.1 i (by omega) (by omega)) (q.1 2 (by omega) (by omega)),
    ⟨R.fl.1.trans (q.1 2 (by omega) (by omega)).symm, R.fl.2.1.trans (q.1 0 (by omega) (by omega)).symm, R.fl.2.2.1.trans (q.1 1 (by omega) (by omega)).symm, R.fl.2.2.2.1.trans (q.1 3 (by omega) (by omega)).symm, R.fl.2.2.2.2.1.trans q.2.1.symm, fun c => absurd (q.2.1.trans w) c⟩⟩
/-- the hall F is what is kept at the store j -/
def KPT (F D : Nat → Int → Int) (j : Nat) (N : Int) : Prop := ∀ s, (∀ e, 0 ≤ e → e < 861 → s e = D 8 (861 * j + e)) → s (-1) = -1 → InR (s (-2)) → HR F (D 0 2) (D 0 3) s ∧ HI (D 0 3) (D 0 4) (D 0 2) N s
theorem KPT.mono {F D : Nat → Int → Int} {j : Nat} {N N' : Int} (k : KPT F D j N) (h : N ≤ N') : KPT F D j N' := fun s a b c => ⟨(k s a b c).1, (k s a b c).2.mono h⟩
theorem KPT.to {F D D' : Nat → Int → Int} {i j : Nat} {N : Int} (k : KPT F D i N) (h2 : D' 0 2 = D 0 2) (h3 : D' 0 3 = D 0 3) (h4 : D' 0 4 = D 0 4) (h8 : ∀ e, 0 ≤ e → e < 861 → D' 8 (861 * j + e) = D 8 (861 * i + e)) : KPT F D' j N := fun s a b c => by
  rw [h2, h3, h4]
  exact k s (fun e x y => (a e x y).trans (h8 e x y)) b c
theorem KPT.of {F D D' : Nat → Int → Int} {j : Nat} {N : Int} {s : Int → Int} (I : HI (D 0 3) (D 0 4) (D 0 2) N s) (R : HR F (D 0 2) (D 0 3) s) (hK : 0 ≤ D 0 3) (hP : 0 ≤ D 0 4) (sw : s (-1) = -1) (h2 : D' 0 2 = D 0 2) (h3 : D' 0 3 = D 0 3) (h4 : D' 0 4 = D 0 4) (h8 : ∀ e, 0 ≤ e → e < 861 → D' 8 (861 * j + e) = s e) : KPT F D' j N := fun s' a b c => by
  have q : SEq s s' := ⟨fun e x y => (a e x y).trans (h8 e x y), b.trans sw.symm, c⟩
  rw [h2, h3, h4]
  exact ⟨R.seq q sw (fun p x y => by have := I.qn ⟨x, y⟩; have := I.hq.1; omega) (fun p x y => (I.sn ⟨x, y⟩).2), q.HI I hK hP⟩
theorem kpA_8 {D : Nat → Int → Int} {s : Int → Int} (hc : 0 ≤ D 0 14 ∧ D 0 14 ≤ 8) (e : Int) : kpA D s 8 e = if D 0 14 < 8 then (if 861 * D 0 14 ≤ e ∧ e < 861 * D 0 14 + 861 then s (e - 861 * D 0 14) else D 8 e) else if 6027 ≤ e ∧ e < 6888 then s (e - 6027) else if 0 ≤ e ∧ e < 6027 then D 8 (e + 861) else D 8 e := by
  rw [kpA_eq]
  unfold kpB
  rw [dst_row (by decide), dcp_eq]
  by_cases c : D 0 14 = 8
  · rw [if_pos c, if_neg (by omega : ¬ D 0 14 < 8)]
    unfold srow
    rw [if_pos rfl, dst_eq, dst_row (by decide), if_pos rfl, sfl_at (by omega)]
    by_cases c1 : 6027 ≤ e ∧ e < 6888
    · rw [if_pos (by omega), if_pos c1]
      congr 1
      omega
    · rw [if_neg (by omega), if_neg c1]
      by_cases c2 : 0 ≤ e ∧ e < 6027
      · rw [if_pos (by omega), if_pos c2]
      · rw [if_neg (by omega), if_neg c2]
  · rw [if_neg c, if_pos (by omega : D 0 14 < 8)]
    unfold srow
    rw [if_pos rfl]
    by_cases c1 : 861 * D 0 14 ≤ e ∧ e < 861 * D 0 14 + 861
    · rw [if_pos (by omega), if_pos c1]
      congr 1
      omega
    · rw [if_neg (by omega), if_neg c1]
/-- the room at the place i: 0 to 7 for changes, 8 and 9 for what was saved -/
def rho (h : PH) (i : Nat) : Nat := if i < 8 then hr h 114 i else hr h 115 (i - 8)
/-- the room i holds the store j -/
def hol (nx cnt : Nat) (f : Int → Int) (i j : Nat) : Prop := (j < cnt ∧ i = (nx + 8 - cnt + j) % 8) ∨ (8 ≤ j ∧ j < 10 ∧ i = j ∧ f ((j : Int) - 8) ≠ 0)
def RR (h : PH) (D : Nat → Int → Int) (nx cnt : Nat) (N : Int) : Prop :=
  (∀ i, i < 10 → rho h i = 0 ∨ (141 ≤ rho h i ∧ rho h i + 14 ≤ hn h ∧ ∃ F, RMK h (rho h i) F ∧ ∀ j, hol nx cnt (D 9) i j → KPT F D j N)) ∧
  (∀ i k, i < 10 → k < 10 → i ≠ k → rho h i ≠ 0 → rho h k ≠ 0 → rho h i + 14 ≤ rho h k ∨ rho h k + 14 ≤ rho h i) ∧
  ∀ i j, i < 10 → hol nx cnt (D 9) i j → rho h i ≠ 0
theorem rho_sc {h h' : PH} (S4 : SC h h' 114) (S5 : SC h h' 115) (i : Nat) : rho h' i = rho h i := by
  unfold rho
  split
  · exact (S4.2 i).2
  · exact (S5.2 (i - 8)).2
theorem RR.sc {h h' : PH} {D : Nat → Int → Int} {nx cnt : Nat} {N : Int} (R : RR h D nx cnt N) (S4 : SC h h' 114) (S5 : SC h h' 115) (S : ∀ r, 141 ≤ r → r < hn h → SC h h' r) (n : hn h ≤ hn h') : RR h' D nx cnt N := by
  have e := rho_sc S4 S5
  refine ⟨fun i h10 => ?_, fun i k a b c => by rw [e i, e k]; exact R.2.1 i k a b c, fun i j a b => by rw [e i]; exact R.2.2 i j a b⟩
  rw [e i]
  rcases R.1 i h10 with r | ⟨r1, r2, F, r3, r4⟩
  · exact Or.inl r
  · exact Or.inr ⟨r1, by omega, F, r3.sc (fun r a b => S r (by omega) (by omega)), r4⟩
/-- less is kept -/
theorem RR.less {h : PH} {D D' : Nat → Int → Int} {nx cnt nx' cnt' : Nat} {N N' : Int} (R : RR h D nx cnt N) (hN : N ≤ N') (H : ∀ i j, hol nx' cnt' (D' 9) i j → hol nx cnt (D 9) i j ∧ D' 0 2 = D 0 2 ∧ D' 0 3 = D 0 3 ∧ D' 0 4 = D 0 4 ∧ D' 8 = D 8) : RR h D' nx' cnt' N' := by
  refine ⟨fun i h10 => ?_, R.2.1, fun i j a b => R.2.2 i j a (H i j b).1⟩
  rcases R.1 i h10 with r | ⟨r1, r2, F, r3, r4⟩
  · exact Or.inl r
  · exact Or.inr ⟨r1, r2, F, r3, fun j b => by
      have q := H i j b
      exact ((r4 j q.1).mono hN).to q.2.1 q.2.2.1 q.2.2.2.1 (fun e _ _ => by rw [q.2.2.2.2])⟩
theorem RR.rem {h h' : PH} {D : Nat → Int → Int} {s : Int → Int} {nx a : Nat} {F : Nat → Int → Int} {N N' : Int} (R : RR h D nx (D 0 14).toNat N) (hN : N ≤ N') (hnx : nx < 8) (hc : 0 ≤ D 0 14 ∧ D 0 14 ≤ 8) (n : 141 ≤ hn h) (B : RMB h h' nx a (D 0 14)) (G : RMK h' a F) (ha : 141 ≤ a ∧ a + 14 ≤ hn h') (RF : HR F (D 0 2) (D 0 3) s) (I : HI (D 0 3) (D 0 4) (D 0 2) N s) (hK : 0 ≤ D 0 3) (hP : 0 ≤ D 0 4) (sw : s (-1) = -1) : RR h' (kpA D s) (if nx < 7 then nx + 1 else 0) (kpA D s 0 14).toNat N' := by
  obtain ⟨b1, b2, b3, b4⟩ := B
  have S5 : SC h h' 115 := b2 115 (by omega) (by omega) (by omega) (by omega)
  have e : ∀ i, i < 10 → rho h' i = if i = nx then a else rho h i := by
    intro i _
    unfold rho
    by_cases c : i < 8
    · rw [if_pos c, if_pos c]
      exact b4.2.2 i
    · rw [if_neg c, if_neg c, if_neg (by omega)]
      exact (S5.2 (i - 8)).2
  have hn' : hn h ≤ hn h' := by rcases b1 with q | q <;> omega
  have far : ∀ i, i < 10 → i ≠ nx → rho h i ≠ 0 → rho h i + 14 ≤ a ∨ a + 14 ≤ rho h i := by
    intro i h10 hi' h0
    rcases b1 with ⟨q1, q2, q3⟩ | ⟨q1, q2, q3⟩
    · have r0 : rho h nx = hr h 114 nx := if_pos hnx
      have := R.2.1 i nx h10 (by omega) hi' h0 (by rw [r0]; exact q1)
      rw [r0] at this
      omega
    · rcases R.1 i h10 with r | r
      · exact absurd r h0
      · omega
  have c14 : kpA D s 0 14 = if D 0 14 = 8 then 8 else D 0 14 + 1 := kpA_14 D s
  have h9 : kpA D s 9 = D 9 := kpA_row D s (by decide) (by decide)
  -- what a room holds now
  have hl1 : ∀ i j, i < 10 → hol (if nx < 7 then nx + 1 else 0) (kpA D s 0 14).toNat (kpA D s 9) i j → (i = nx ∧ (∀ e, 0 ≤ e → e < 861 → kpA D s 8 (861 * j + e) = s e)) ∨ (i ≠ nx ∧ ∃ j', hol nx (D 0 14).toNat (D 9) i j' ∧ ∀ e, 0 ≤ e → e < 861 → kpA D s 8 (861 * j + e) = D 8 (861 * j' + e)) := by
    intro i j h10 q
    rw [c14, h9] at q
    rcases q with ⟨q1, q2⟩ | ⟨q1, q2, q3, q4⟩
    · by_cases c : D 0 14 = 8
      · rw [if_pos c] at q1 q2
        by_cases c7 : j = 7
        · refine Or.inl ⟨?_, fun e x y => ?_⟩
          · subst c7
            split at q2 <;> omega
          · rw [kpA_8 hc, if_neg (by omega), if_pos (by omega)]
            exact congrArg s (by omega)
        · refine Or.inr ⟨?_, j + 1, Or.inl ⟨by omega, ?_⟩, fun e x y => ?_⟩
          · split at q2 <;> omega
          · split at q2 <;> omega
          · rw [kpA_8 hc, if_neg (by omega), if_neg (by omega), if_pos (by omega)]
            exact congrArg (D 8) (by omega)
      · rw [if_neg c] at q1 q2
        by_cases c7 : j = (D 0 14).toNat
        · refine Or.inl ⟨?_, fun e x y => ?_⟩
          · split at q2 <;> omega
          · rw [kpA_8 hc, if_pos (by omega), if_pos (by omega)]
            exact congrArg s (by omega)
        · refine Or.inr ⟨?_, j, Or.inl ⟨by omega, ?_⟩, fun e x y => ?_⟩
          · split at q2 <;> omega
          · split at q2 <;> omega
          · rw [kpA_8 hc, if_pos (by omega), if_neg (by omega)]
    · refine Or.inr ⟨by omega, j, Or.inr ⟨q1, q2, q3, q4⟩, fun e x y => ?_⟩
      rw [kpA_8 hc]
      by_cases c : D 0 14 < 8
      · rw [if_pos c, if_neg (by omega)]
      · rw [if_neg c, if_neg (by omega), if_neg (by omega)]
  refine ⟨fun i h10 => ?_, fun i k hi hk' hne r1 r2 => ?_, fun i j h10 q => ?_⟩
  · rw [e i h10]
    by_cases z : i = nx
    · rw [if_pos z]
      refine Or.inr ⟨ha.1, ha.2, F, G, fun j q => ?_⟩
      rcases hl1 i j h10 q with ⟨_, q2⟩ | ⟨q1, _⟩
      · exact KPT.of (I.mono hN) RF hK hP sw (kpA_0 D s (by decide)) (kpA_0 D s (by decide)) (kpA_0 D s (by decide)) q2
      · exact absurd z q1
    · rw [if_neg z]
      rcases R.1 i h10 with r | ⟨r1, r2, F', r3, r4⟩
      · exact Or.inl r
      · have fa := far i h10 z (by omega)
        refine Or.inr ⟨r1, by omega, F', r3.sc (fun r x y => b2 r (by omega) (by omega) (by omega) (by omega)), fun j q => ?_⟩
        rcases hl1 i j h10 q with ⟨q1, _⟩ | ⟨_, j', q1, q2⟩
        · exact absurd q1 z
        · exact ((r4 j' q1).mono hN).to (kpA_0 D s (by decide)) (kpA_0 D s (by decide)) (kpA_0 D s (by decide)) q2
  · rw [e i hi] at r1 ⊢
    rw [e k hk'] at r2 ⊢
    by_cases z : i = nx
    · rw [if_pos z] at r1 ⊢
      rw [if_neg (by omega)] at r2 ⊢
      have := far k hk' (by omega) r2
      omega
    · rw [if_neg z] at r1 ⊢
      by_cases z2 : k = nx
      · rw [if_pos z2] at r2 ⊢
        exact far i hi z r1
      · rw [if_neg z2] at r2 ⊢
        exact R.2.1 i k hi hk' hne r1 r2
  · rw [e i h10]
    by_cases z : i = nx
    · rw [if_pos z]; omega
    · rw [if_neg z]
      rcases hl1 i j h10 q with ⟨q1, _⟩ | ⟨_, j', q1, q2⟩
      · exact absurd q1 z
      · exact R.2.2 i j' h10 q1
