/-! the lines' states -/
def KP (D : Nat → Int → Int) : Prop := (0 ≤ D 0 31 ∧ D 0 31 ≤ 8) ∧ (0 ≤ D 0 32 ∧ D 0 32 ≤ 6) ∧ NB (D 11) ∧ NB (D 12)
def l1D (D : Nat → Int → Int) (f K : Int) : Nat → Int → Int := if D 0 f = K then flD D 4 else D
theorem PR.l1 {D : Nat → Int → Int} (P : PR D) (f K : Int) : PR (l1D D f K) := by
  unfold l1D
  split
  · exact P.fl (by decide)
  · exact P
theorem l1_0 (D : Nat → Int → Int) (f K : Int) {e : Int} (h : e < 21 ∨ 26 < e) : l1D D f K 0 e = D 0 e := by
  unfold l1D
  split
  · exact fl_0 D _ (by omega) (by omega)
  · rfl
theorem l1_row (D : Nat → Int → Int) (f K : Int) {j : Nat} (h : j ≠ 0) : l1D D f K j = D j := by
  unfold l1D
  split
  · exact fl_row D _ h
  · rfl
def lpW (D : Nat → Int → Int) : Nat → Int → Int := nwD 12 (D 0 32) (if D 0 32 < 6 then D 0 32 else 0) (gD (l1D D 32 6))
def lpD (D : Nat → Int → Int) : Nat → Int → Int := dst (lpW D) 0 32 (lpW D 0 32 + (if lpW D 0 25 = 0 then 1 else 0))
def lkW (D : Nat → Int → Int) : Nat → Int → Int := nwD 11 (D 0 31) (if D 0 31 < 8 then D 0 31 else 0) (gD (l1D D 31 8))
def lkA (D : Nat → Int → Int) : Nat → Int → Int := gD (tkE (lkW D) 1 99)
def lkB (D : Nat → Int → Int) : Nat → Int → Int := gD (tkE (lkA D) 0 20)
def lkC (D : Nat → Int → Int) : Nat → Int → Int := gD (tkE (lkB D) 1 200)
def lkD (D : Nat → Int → Int) : Nat → Int → Int :=
  if lkC D 0 25 = 0 then dst (dst (dst (dst (lkC D) 13 (3 * (if D 0 31 < 8 then D 0 31 else 0)) (tvV (lkW D) 1 99)) 13 (3 * (if D 0 31 < 8 then D 0 31 else 0) + 1) (tvV (lkA D) 0 20)) 13 (3 * (if D 0 31 < 8 then D 0 31 else 0) + 2) (tvV (lkB D) 1 200)) 0 31 (D 0 31 + 1) else lkC D
