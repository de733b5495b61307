/-! what is thrown, as a number -/
def tL (D : Nat → Int → Int) : Int := if D 0 1 = 0 then 1 else 0
/-- one check more: v in l..u, else c -/
def ck (t v l u c : Int) : Int := if t ≠ 0 then t else if l ≤ v ∧ v ≤ u then 0 else c
theorem tL_or (D : Nat → Int → Int) : D 0 1 = 0 ∧ tL D = 1 ∨ D 0 1 ≠ 0 ∧ tL D = 0 := by
  unfold tL
  split <;> omega
theorem ck_or (t v l u c : Int) : t ≠ 0 ∧ ck t v l u c = t ∨ t = 0 ∧ (l ≤ v ∧ v ≤ u) ∧ ck t v l u c = 0 ∨ t = 0 ∧ ¬ (l ≤ v ∧ v ≤ u) ∧ ck t v l u c = c := by
  unfold ck
  split
  · omega
  · split <;> omega
abbrev tK (D : Nat → Int → Int) (k : Int) : Int := ck (tL D) k 0 (D 0 3 - 1) 2
abbrev tP (D : Nat → Int → Int) (p : Int) : Int := ck (tL D) p 0 (D 0 4 - 1) 2
abbrev tPK (D : Nat → Int → Int) (p k : Int) : Int := ck (tP D p) k 0 (D 0 3 - 1) 2
abbrev tS (D : Nat → Int → Int) (s : Int → Int) (g : Int) : Int := ck (tL D) g 0 (s 1 - 1) 2
/-- what holds of the model at all times -/
def WD (D : Nat → Int → Int) (s : Int → Int) (N : Int) : Prop := (D 0 1 = 0 ∨ D 0 1 = 1) ∧ (0 ≤ D 0 3 ∧ D 0 3 ≤ 8) ∧ (0 ≤ D 0 4 ∧ D 0 4 ≤ 6) ∧ (N ≤ 1990000000) ∧ (0 ≤ s 1 ∧ s 1 ≤ N) ∧ (D 0 1 ≠ 0 → HI (D 0 3) (D 0 4) (D 0 2) N s ∧ PIv D ∧ s (-1) = -1)
theorem S_X7_inB {d : Nat} {h : PH} {Q : Int → PH → Prop} {X : Nat → PH → Prop} {v l u : Int} (hv : InR v) (hl0 : InR l) (hu : InR u) (H : ∀ x : Int, x = 1 ∧ l ≤ v ∧ v ≤ u ∨ x = 0 ∧ ¬ (l ≤ v ∧ v ≤ u) → Q x h) : RUN GQ (d + 1) m_X7_in [pI v, pI l, pI u] h Q X :=
  S_X7_in hv hl0 hu (fun x e => H x (by rw [e]; split <;> omega))
