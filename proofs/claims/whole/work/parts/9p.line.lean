/-! words -/
/-- a string of the class: its chars -/
def STR (h : PH) (a : Nat) (w : List Int) : Prop := hk h a = 27 ∧ hl h a = w.length ∧ (∀ i : Int, 0 ≤ i → i < w.length → hi h a i.toNat = w.getD i.toNat 0) ∧ ∀ i : Nat, 0 ≤ w.getD i 0 ∧ w.getD i 0 ≤ 65535
def wdl (D : Nat → Int → Int) (w : List Int) : Nat → Int → Int
  | 0, _ => 1
  | n + 1, i => if bt D (D 0 22 + i) = w.getD i.toNat 0 then wdl D w n (i + 1) else 0
def wdv (D : Nat → Int → Int) (w : List Int) : Int := if D 0 25 = 0 ∧ D 0 23 = 1 ∧ D 0 21 - D 0 22 = w.length then wdl D w w.length 0 else 0
theorem wdl_01 (D : Nat → Int → Int) (w : List Int) : ∀ (n : Nat) (i : Int), wdl D w n i = 0 ∨ wdl D w n i = 1
  | 0, _ => Or.inr rfl
  | n + 1, i => by
    show (if bt D (D 0 22 + i) = w.getD i.toNat 0 then wdl D w n (i + 1) else 0) = 0 ∨ (if bt D (D 0 22 + i) = w.getD i.toNat 0 then wdl D w n (i + 1) else 0) = 1
    split
    · exact wdl_01 D w n (i + 1)
    · exact Or.inl rfl
theorem wdv_01 (D : Nat → Int → Int) (w : List Int) : wdv D w = 0 ∨ wdv D w = 1 := by
  unfold wdv
  split
  · exact wdl_01 D w _ _
  · exact Or.inl rfl
theorem STR.of {b n : Nat} {h0 h : PH} {a : Nat} {w : List Int} (hS : STR h0 a w) (S : Sa b n h0 h) (ha : a < b) : STR h a w := by
  obtain ⟨h1, h2, h3, h4⟩ := hS
  refine ⟨by rw [S.ek]; exact h1, by rw [S.el]; exact h2, fun i hi0 hi1 => ?_, h4⟩
  rw [S.2.2.2 _ _ (by omega)]
  exact h3 i hi0 hi1
