/-! what 'remember' leaves as it was -/
def XQ (h : PH) (B A : Nat) : Prop := hk h 64 = 7 ∧ hr h 64 5 = B ∧ hr h 64 6 = A
theorem XQ.k {h : PH} {B A : Nat} (X : XQ h B A) : hk h 64 = 7 := X.1
theorem XQ.r5 {h : PH} {B A : Nat} (X : XQ h B A) : hr h 64 5 = B := X.2.1
theorem XQ.r6 {h : PH} {B A : Nat} (X : XQ h B A) : hr h 64 6 = A := X.2.2
theorem XQ.sa {h h' : PH} {B A : Nat} (S : Sa A 14 h h') (X : XQ h B A) (dA : 66 ≤ A) : XQ h' B A := by
  refine ⟨?_, ?_, ?_⟩
  · rw [S.ek]; exact X.1
  · rw [S.er]; exact X.2.1
  · rw [S.er]; exact X.2.2
def DAB (A B : Nat) : Prop := (66 ≤ A ∧ A + 14 ≤ 114) ∧ (66 ≤ B ∧ B + 10 ≤ 114) ∧ (A + 14 ≤ B ∨ B + 10 ≤ A)
theorem RMB.sc {h h' : PH} {nx a : Nat} {c : Int} (b : RMB h h' nx a c) (ha : 141 ≤ a) (n : 141 ≤ hn h) {r : Nat} (h1 : r < 141) (h2 : r ≠ 64) (h3 : r ≠ 114) : SC h h' r := b.2.1 r (by omega) h2 h3 (by omega)
theorem FT.rem {h h1 : PH} {B A nx a : Nat} {EP E D : Nat → Int → Int} {s : Int → Int} {c : Int} (T : FT h B A EP E D s) (b : RMB h h1 nx a c) (ha : 141 ≤ a) (n : 141 ≤ hn h) (d : DAB A B) : FT h1 B A EP E D s := by
  obtain ⟨t1, t2, t3, t4, t5⟩ := T
  obtain ⟨d1, d2, d3⟩ := d
  have q := b.2.2.1
  have ek : hk h1 64 = hk h 64 := by unfold hk; rw [q.1]
  refine ⟨?_, ?_, t3.sc (fun r x y => b.sc ha n (by omega) (by omega) (by omega)) rP_lt, t4.sc (fun r x y => b.sc ha n (by omega) (by omega) (by omega)) rH_lt, t5⟩
  · unfold XC at t1 ⊢
    rw [ek, q.2.1, q.2.1, q.2.1, q.2.1]
    exact t1
  · unfold XI at t2 ⊢
    rw [q.2.2.1 1 (by omega) (by omega), q.2.2.1 2 (by omega) (by omega), q.2.2.1 3 (by omega) (by omega), q.2.2.1 4 (by omega) (by omega)]
    exact t2
theorem FT.xq {h : PH} {B A : Nat} {EP E D : Nat → Int → Int} {s : Int → Int} (T : FT h B A EP E D s) : XQ h B A := ⟨T.k, T.r5, T.r6⟩
/-- where the halls that are kept are found -/
def PST (h : PH) (D : Nat → Int → Int) (nx : Nat) : Prop := (hr h 64 9 = 114 ∧ hi h 64 10 = nx ∧ hi h 64 11 = D 0 14) ∧ nx < 8 ∧ (0 ≤ D 0 14 ∧ D 0 14 ≤ 8) ∧ (hk h 114 = 25 ∧ hl h 114 = 8)
theorem RR.room {h : PH} {D : Nat → Int → Int} {nx cnt : Nat} {N : Int} (R : RR h D nx cnt N) (hnx : nx < 8) : hr h 114 nx ≠ 0 → 141 ≤ hr h 114 nx ∧ hr h 114 nx + 14 ≤ hn h ∧ ∃ F, RMK h (hr h 114 nx) F := by
  have e : rho h nx = hr h 114 nx := if_pos hnx
  intro c
  rcases R.1 nx (by omega) with r | ⟨r1, r2, F, r3, r4⟩
  · rw [e] at r; exact absurd r c
  · rw [e] at r1 r2 r3
    exact ⟨r1, r2, F, r3⟩
/-! bits -/
theorem b32_or (x b : Int32) : ((x &&& (b ^^^ -1)) ||| b) = (x ||| b) := by
  apply Int32.toBitVec_inj.mp
  rw [Int32.toBitVec_or, Int32.toBitVec_or, Int32.toBitVec_and, Int32.toBitVec_xor]
  have e : (-1 : Int32).toBitVec = BitVec.allOnes 32 := by decide
  rw [e]
  apply BitVec.eq_of_getElem_eq
  intro i hi'
  simp only [BitVec.getElem_or, BitVec.getElem_and, BitVec.getElem_xor, BitVec.getElem_allOnes]
  cases x.toBitVec[i] <;> cases b.toBitVec[i] <;> rfl
theorem bor_bit (x b : Int) (h : InR b) : bor (band x (bxor b (-1))) b = bor x b := by
  unfold bor band bxor
  rw [Int32.ofInt_toInt, Int32.ofInt_toInt, show Int32.ofInt (-1) = -1 from rfl, b32_or]
theorem msk_to {x k z : Int} (hz : z = 0 ∨ z = 1) : bor (band x (bxor (bshl 1 k) (-1))) (bshl z k) = if z = 0 then band x (bxor (bshl 1 k) (-1)) else bor x (bshl 1 k) := by
  rcases hz with e | e
  · rw [if_pos e, e, bshl_0, bor_0 (band_InR _ _)]
  · rw [if_neg (by omega), e, bor_bit _ _ (bshl_InR _ _)]
/-! the number that a signal gets -/
theorem snd_1 {D : Nat → Int → Int} {s : Int → Int} {N p k v : Int} (I : HI (D 0 3) (D 0 4) (D 0 2) N s) (V : PIv D) (hp : 0 ≤ p ∧ p < D 0 4) (hkx : 0 ≤ k ∧ k < D 0 3) (hv : 0 ≤ v ∧ v < 1000) : e_snd D s p k v (-1) 1 = s 1 + 1 := by
  obtain ⟨v2, v3, v4, vh⟩ := id V
  have q0 := I.qn (p := p) ⟨hp.1, by omega⟩
  have q13 := V.1
  have hp6 : 0 ≤ p ∧ p < 6 := by omega
  have ha : 121 ≤ 121 + 5 * (13 * p + s (115 + p)) ∧ 121 + 5 * (13 * p + s (115 + p)) ≤ 506 := by omega
  have sz := snd0_sz (s := s) (k := k) (v := v) (b := -1) hp6 (by omega) ha
  simp only [e_snd]
  split
  · rename_i hlt
    have I1 := snd0_HI (v := v) (b := -1) (c' := D 0 2 + 1) I v3.1 v4 hp hkx hv (by omega) (by omega) (by omega) (fun q h1 h2 _ => by have := I.qn ⟨h1, h2⟩; omega) (by omega)
    have pr := (plc_spec (s := e_snd0 s p k v (-1) (121 + 5 * (13 * p + s (115 + p)))) (p := p) (x := e_snd0 s p k v (-1) (121 + 5 * (13 * p + s (115 + p))) (115 + p) - 1) ⟨by omega, by omega⟩).1
    rw [eiq_ne I1 hp6 pr (by omega) (by omega) (by omega) (by omega) (by omega) (by omega) (by omega) (by omega)]
    exact snd0_1 hp6 (by omega) ha
  · exact snd0_1 hp6 (by omega) ha
