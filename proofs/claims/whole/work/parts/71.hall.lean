/-! the class's hall against the model's row -/
def srow (E : Nat → Int → Int) (j : Nat) (f : Int → Int) : Nat → Int → Int := fun j' => if j' = j then f else E j'
theorem srow_self (E : Nat → Int → Int) (j : Nat) : srow E j (E j) = E := by
  funext j'
  unfold srow
  split
  · rename_i h; rw [h]
  · rfl
theorem srow_dst (E : Nat → Int → Int) (j : Nat) (e v : Int) (f : Int → Int) : srow (dst E j e v) j f = srow E j f := by
  funext j'
  unfold srow dst
  split <;> rfl
def Rw (j : Nat) (lo n : Int) (E : Nat → Int → Int) (s : Int → Int) : Prop := ∀ e, 0 ≤ e → e < n → E j e = s (lo + e)
def HRq (E : Nat → Int → Int) (s : Int → Int) : Prop := ∀ p i w, 0 ≤ p → p < 6 → 0 ≤ i → i < s (115 + p) → 0 ≤ w → w < 5 → E 8 ((p * 13 + i) * 7 + w) = qv s p i w
def HRs (E : Nat → Int → Int) (s : Int → Int) : Prop := ∀ p i, 0 ≤ p → p < 6 → 0 ≤ i → i < s (511 + p) → E 11 ((p * 4 + i) * 7 + 0) = sv s p i 0 ∧ E 11 ((p * 4 + i) * 7 + 1) = sv s p i 1 ∧ E 11 ((p * 4 + i) * 7 + 3) = sv s p i 4 ∧ E 11 ((p * 4 + i) * 7 + 4) = sv s p i 5 ∧ E 11 ((p * 4 + i) * 7 + 5) = sv s p i 2 ∧ E 11 ((p * 4 + i) * 7 + 6) = sv s p i 3
def HRe (E : Nat → Int → Int) (s : Int → Int) : Prop := ∀ j w, 0 ≤ j → j < 40 → j < s 2 → 0 ≤ w → w < 5 → E 13 (j * 5 + w) = rv s j w
def HRf (E : Nat → Int → Int) (s : Int → Int) : Prop := E 0 9 = s 2 ∧ E 0 10 = s 0 ∧ E 0 11 = s 1 ∧ E 0 12 = s 3 ∧ E 0 13 = s (-1) ∧ (s (-1) ≠ -1 → E 0 14 = s (-2))
def HRo (E : Nat → Int → Int) (C : Int) : Prop := E 6 0 = 13 ∧ E 9 0 = 4 ∧ E 1 3 = C
/-- the numbers of the K kinds that there are -/
def HRk (E : Nat → Int → Int) (K : Int) (s : Int → Int) : Prop := ∀ e, 0 ≤ e → e < 24 → e < 3 * K → E 2 e = s (13 + e)
def HRr (E : Nat → Int → Int) (K : Int) (s : Int → Int) : Prop := Rw 1 10 3 E s ∧ HRk E K s ∧ Rw 3 37 48 E s ∧ Rw 4 85 6 E s ∧ Rw 5 91 24 E s ∧ Rw 7 115 6 E s ∧ Rw 10 511 6 E s ∧ Rw 12 4 6 E s
def HR (E : Nat → Int → Int) (C K : Int) (s : Int → Int) : Prop := HRo E C ∧ HRr E K s ∧ HRq E s ∧ HRs E s ∧ HRe E s ∧ HRf E s
section HRL
variable {E E' : Nat → Int → Int} {C K : Int} {s s' : Int → Int}
theorem HR.r6 (R : HR E C K s) : E 6 0 = 13 := R.1.1
theorem HR.r9 (R : HR E C K s) : E 9 0 = 4 := R.1.2.1
theorem HR.cap (R : HR E C K s) : E 1 3 = C := R.1.2.2
theorem HR.set (R : HR E C K s) {e : Int} (h : 0 ≤ e ∧ e < 3) : E 1 e = s (10 + e) := R.2.1.1 e h.1 h.2
theorem HR.kn (R : HR E C K s) {k w : Int} (hk : 0 ≤ k ∧ k < 8) (hkK : k < K) (hw : 0 ≤ w ∧ w < 3) : E 2 (k * 3 + w) = kn s k w := (R.2.1.2.1 _ (by omega) (by omega) (by omega)).trans (congrArg s (by omega))
theorem HR.td (R : HR E C K s) {p k : Int} (hp : 0 ≤ p ∧ p < 6) (hk : 0 ≤ k ∧ k < 8) : E 3 (p * 8 + k) = td s p k := (R.2.1.2.2.1 _ (by omega) (by omega)).trans (congrArg s (by omega))
theorem HR.mk (R : HR E C K s) {p : Int} (hp : 0 ≤ p ∧ p < 6) : E 4 p = s (85 + p) := R.2.1.2.2.2.1 p hp.1 hp.2
theorem HR.ta (R : HR E C K s) {p w : Int} (hp : 0 ≤ p ∧ p < 6) (hw : 0 ≤ w ∧ w < 4) : E 5 (p * 4 + w) = s (91 + 4 * p + w) := (R.2.1.2.2.2.2.1 _ (by omega) (by omega)).trans (congrArg s (by omega))
theorem HR.qn (R : HR E C K s) {p : Int} (hp : 0 ≤ p ∧ p < 6) : E 7 p = s (115 + p) := R.2.1.2.2.2.2.2.1 p hp.1 hp.2
theorem HR.sn (R : HR E C K s) {p : Int} (hp : 0 ≤ p ∧ p < 6) : E 10 p = s (511 + p) := R.2.1.2.2.2.2.2.2.1 p hp.1 hp.2
theorem HR.ec (R : HR E C K s) {t : Int} (ht : 0 ≤ t ∧ t < 6) : E 12 t = s (4 + t) := R.2.1.2.2.2.2.2.2.2 t ht.1 ht.2
theorem HR.qv (R : HR E C K s) {p i w : Int} (hp : 0 ≤ p ∧ p < 6) (hi : 0 ≤ i ∧ i < s (115 + p)) (hw : 0 ≤ w ∧ w < 5) : E 8 ((p * 13 + i) * 7 + w) = qv s p i w := R.2.2.1 p i w hp.1 hp.2 hi.1 hi.2 hw.1 hw.2
theorem HR.sv (R : HR E C K s) {p i : Int} (hp : 0 ≤ p ∧ p < 6) (hi : 0 ≤ i ∧ i < s (511 + p)) : E 11 ((p * 4 + i) * 7 + 0) = Jvm.Pilot.CFadingSignalsLaw_law_r4563_1f4246.sv s p i 0 ∧ E 11 ((p * 4 + i) * 7 + 1) = Jvm.Pilot.CFadingSignalsLaw_law_r4563_1f4246.sv s p i 1 ∧ E 11 ((p * 4 + i) * 7 + 3) = Jvm.Pilot.CFadingSignalsLaw_law_r4563_1f4246.sv s p i 4 ∧ E 11 ((p * 4 + i) * 7 + 4) = Jvm.Pilot.CFadingSignalsLaw_law_r4563_1f4246.sv s p i 5 ∧ E 11 ((p * 4 + i) * 7 + 5) = Jvm.Pilot.CFadingSignalsLaw_law_r4563_1f4246.sv s p i 2 ∧ E 11 ((p * 4 + i) * 7 + 6) = Jvm.Pilot.CFadingSignalsLaw_law_r4563_1f4246.sv s p i 3 := R.2.2.2.1 p i hp.1 hp.2 hi.1 hi.2
theorem HR.rv (R : HR E C K s) {j w : Int} (hj : 0 ≤ j ∧ j < 40) (h2 : j < s 2) (hw : 0 ≤ w ∧ w < 5) : E 13 (j * 5 + w) = rv s j w := R.2.2.2.2.1 j w hj.1 hj.2 h2 hw.1 hw.2
theorem HR.fl (R : HR E C K s) : HRf E s := R.2.2.2.2.2
theorem Rw.of {j : Nat} {lo n : Int} (h : Rw j lo n E s) (hE : E' j = E j) (hs : ∀ i, lo ≤ i → i < lo + n → s' i = s i) : Rw j lo n E' s' := fun e h1 h2 => by
  rw [hE, hs _ (by omega) (by omega)]; exact h e h1 h2
theorem HRk.of (h : HRk E K s) (hE : E' 2 = E 2) (hs : ∀ i, 13 ≤ i → i < 13 + 24 → s' i = s i) : HRk E' K s' := fun e h1 h2 h3 => by
  rw [hE, hs _ (by omega) (by omega)]; exact h e h1 h2 h3
theorem HRq.of (h : HRq E s) (hE : E' 8 = E 8) (hs : ∀ i, 115 ≤ i → i < 511 → s' i = s i) (hc : ∀ p, 0 ≤ p → p < 6 → s (115 + p) ≤ 13) : HRq E' s' := by
  intro p i w h1 h2 h3 h4 h5 h6
  rw [hs _ (by omega) (by omega)] at h4
  have := hc p h1 h2
  rw [hE, qv_of (s := s) (fun i _ _ => hs i (by omega) (by omega)) ⟨h1, h2⟩ ⟨h3, by omega⟩ ⟨h5, h6⟩]
  exact h p i w h1 h2 h3 h4 h5 h6
theorem HRs.of (h : HRs E s) (hE : E' 11 = E 11) (hs : ∀ i, 511 ≤ i → i < 661 → s' i = s i) (hc : ∀ p, 0 ≤ p → p < 6 → s (511 + p) ≤ 4) : HRs E' s' := by
  intro p i h1 h2 h3 h4
  rw [hs _ (by omega) (by omega)] at h4
  have := hc p h1 h2
  have g : ∀ w, 0 ≤ w → w < 6 → sv s' p i w = sv s p i w := fun w a b => sv_of (fun i _ _ => hs i (by omega) (by omega)) ⟨h1, h2⟩ ⟨h3, by omega⟩ ⟨a, b⟩
  rw [hE, g 0 (by omega) (by omega), g 1 (by omega) (by omega), g 2 (by omega) (by omega), g 3 (by omega) (by omega), g 4 (by omega) (by omega), g 5 (by omega) (by omega)]
  exact h p i h1 h2 h3 h4
theorem HRe.of (h : HRe E s) (hE : E' 13 = E 13) (hs : ∀ i, 661 ≤ i → i < 861 → s' i = s i) (h2 : s' 2 = s 2) : HRe E' s' := by
  intro j w a b c d e
  rw [h2] at c
  rw [hE]
  unfold Jvm.Pilot.CFadingSignalsLaw_law_r4563_1f4246.rv
  rw [hs _ (by omega) (by omega)]
  exact h j w a b c d e
theorem band1 (x : Int) : band x 1 = 0 ∨ band x 1 = 1 := by
  unfold band
  have h : (Int32.ofInt x &&& Int32.ofInt 1) = 0 ∨ (Int32.ofInt x &&& Int32.ofInt 1) = 1 := by
    generalize Int32.ofInt x = y
    have e : (Int32.ofInt 1) = 1 := rfl
    rw [e]
    rcases y with ⟨⟨z⟩⟩
    have hz : z &&& 1#32 = 0#32 ∨ z &&& 1#32 = 1#32 := by
      have h1 : (z &&& 1#32).toNat = z.toNat % 2 := by
        rw [BitVec.toNat_and]
        exact Nat.and_one_is_mod _
      rcases Nat.mod_two_eq_zero_or_one z.toNat with q | q
      · left; apply BitVec.eq_of_toNat_eq; rw [h1, q]; rfl
      · right; apply BitVec.eq_of_toNat_eq; rw [h1, q]; rfl
    rcases hz with q | q
    · left; apply Int32.toBitVec_inj.mp; exact q
    · right; apply Int32.toBitVec_inj.mp; exact q
  rcases h with h | h <;> rw [h]
  · left; rfl
  · right; rfl
end HRL
/-- a signal at a place of a list leaves it, with an end: what the class writes; o: the list, r: its rows for each program -/
def c_rm (o : Nat) (r : Int) (E : Nat → Int → Int) (p i : Int) : Nat → Int → Int :=
  dst (srow E (o + 2) (sfl 7 (7 * (E (o + 1) p - i - 1)).toNat ((p * r + i) * 7) (E (o + 2)))) (o + 1) p (E (o + 1) p - 1)
def c_en0 (o : Nat) (r : Int) (E : Nat → Int → Int) (p i t a : Int) : Nat → Int → Int :=
  let E1 := dst E 13 (a + 0) (E (o + 2) ((p * r + i) * 7 + 0))
  let E2 := dst E1 13 (a + 1) t
  let E3 := dst E2 13 (a + 2) (E2 0 10)
  let E4 := dst E3 13 (a + 3) p
  let E5 := dst E4 13 (a + 4) (E4 (o + 2) ((p * r + i) * 7 + 1))
  let E6 := dst E5 0 9 (E5 0 9 + 1)
  let E7 := dst E6 12 t (E6 12 t + 1)
  dst E7 5 (p * 4 + (if t = 0 then 2 else 3)) (E7 5 (p * 4 + (if t = 0 then 2 else 3)) + 1)
def c_en1 (o : Nat) (r : Int) (E : Nat → Int → Int) (p i t a : Int) : Nat → Int → Int :=
  let E8 := c_en0 o r E p i t a
  if t = 0 then dst E8 0 12 (E8 0 12 + (E8 0 10 - E8 (o + 2) ((p * r + i) * 7 + 4))) else E8
def c_end (o : Nat) (r : Int) (E : Nat → Int → Int) (p i t : Int) : Nat → Int → Int :=
  let E9 := c_en1 o r E p i t (Int.tmod (E 0 9) 40 * 5)
  c_rm o r (if E (o + 2) ((p * r + i) * 7 + 0) = E9 0 13 then dst E9 0 14 t else E9) p i
