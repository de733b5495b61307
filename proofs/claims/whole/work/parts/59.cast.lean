/-! small things -/
theorem Md.cast {b : Nat} {h0 h : PH} {D : Nat → Int → Int} {s s' : Int → Int} (M : Md b h0 h D s) (e : s' = s) : Md b h0 h D s' := by rw [e]; exact M
theorem Md.castD {b : Nat} {h0 h : PH} {D D' : Nat → Int → Int} {s : Int → Int} (M : Md b h0 h D s) (e : D' = D) : Md b h0 h D' s := by rw [e]; exact M
theorem msk_01 {s : Int → Int} (p k : Int) : msk s p k = 0 ∨ msk s p k = 1 := by
  unfold msk
  split <;> omega
theorem may_01 {s : Int → Int} (p u : Int) : may s p u = 0 ∨ may s p u = 1 := by
  unfold may
  split <;> omega
def e_wkB (s : Int → Int) (p a : Int) : Int → Int := ups (ups s 3 (s 3 + (s 0 - s (a + 5)))) (511 + p) (s (511 + p) - 1)
