/-! words -/
/-- a string of the class: its chars -/
def STR (h : PH) (a : Nat) (w : List Int) : Prop := hk h a = 27 ∧ hl h a = w.length ∧ (∀ i : Int, 0 ≤ i → i < w.length → hi h a i.toNat = w.getD i.toNat 0) ∧ ∀ i : Nat, 0 ≤ w.getD i 0 ∧ w.getD i 0 ≤ 65535
def wdl (D : Nat → Int → Int) (w : List Int) : Nat → Int → Int
  | 0, _ => 1
  | n + 1, i => if bt D (D 0 22 + i) = w.getD i.toNat 0 then wdl D w n (i + 1) else 0
def wdv (D : Nat → Int → Int) (w : List Int) : Int := if D 0 25 = 0 ∧ D 0 23 = 1 ∧ D 0 21 - D 0 22 = w.length then wdl D w w.length 0 else 0
theorem wdl_01 (D : Nat → Int → Int) (w : List Int) : ∀ (n : Nat) (i : Int), wdl D w n i = 0 ∨ wdl D w n i = 1
  | 0, _ => Or.inr rfl
  | n + 1, i => by
    show (if bt D (D 0 22 + i) = w.getD i.toNat 0 then wdl D w n (i + 1) else 0) = 0 ∨ (if bt D (D 0 22 + i) = w.getD i.toNat 0 then wdl D w n (i + 1) else 0) = 1
    split
    · exact wdl_01 D w n (i + 1)
    · exact Or.inl rfl
theorem wdv_01 (D : Nat → Int → Int) (w : List Int) : wdv D w = 0 ∨ wdv D w = 1 := by
  unfold wdv
  split
  · exact wdl_01 D w _ _
  · exact Or.inl rfl
theorem STR.of {b n : Nat} {h0 h : PH} {a : Nat} {w : List Int} (hS : STR h0 a w) (S : Sa b n h0 h) (ha : a < b) : STR h a w := by
  obtain ⟨h1, h2, h3, h4⟩ := hS
  refine ⟨by rw [S.ek]; exact h1, by rw [S.el]; exact h2, fun i hi0 hi1 => ?_, h4⟩
  rw [S.2.2.2 _ _ (by omega)]
  exact h3 i hi0 hi1
/-- the words of the strings at 15..34 (15..24 of the class, 25..34 of the model) -/
def wdt : Nat → List Int
  | 15 => [104, 97, 108, 108]
  | 16 => [107, 105, 110, 100]
  | 17 => [112, 114, 111, 103, 114, 97, 109]
  | 18 => [104, 97, 110, 100, 108, 101]
  | 19 => [104, 105, 100, 101]
  | 20 => [115, 101, 110, 100]
  | 21 => [114, 97, 105, 115, 101]
  | 22 => [109, 97, 115, 107]
  | 23 => [117, 110, 109, 97, 115, 107]
  | 24 => [100, 114, 111, 112]
  | 25 => [114, 97, 105, 115, 101]
  | 26 => [109, 97, 115, 107]
  | 27 => [117, 110, 109, 97, 115, 107]
  | 28 => [100, 114, 111, 112]
  | 29 => [107, 105, 110, 100]
  | 30 => [112, 114, 111, 103, 114, 97, 109]
  | 31 => [104, 97, 110, 100, 108, 101]
  | 32 => [104, 105, 100, 101]
  | 33 => [115, 101, 110, 100]
  | 34 => [104, 97, 108, 108]
  | _ => []
def WRD (h : PH) : Prop := ∀ r : Nat, 15 ≤ r → r < 35 → STR h r (wdt r)
theorem WRD.of {b n : Nat} {h0 h : PH} (W : WRD h0) (S : Sa b n h0 h) (hb : 35 ≤ b) : WRD h := fun r h1 h2 => (W r h1 h2).of S (by omega)
def aht (D : Nat → Int → Int) : Int := if wdv D (wdt 25) = 1 then 0 else if wdv D (wdt 26) = 1 then 1 else if wdv D (wdt 27) = 1 then 2 else if wdv D (wdt 28) = 1 then 3 else -1
