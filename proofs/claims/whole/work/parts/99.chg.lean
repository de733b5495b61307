/-! changes: what they throw, answer, leave -/
def tTk (D : Nat → Int → Int) (s : Int → Int) (n : Int) : Int := if D 0 1 = 0 then 1 else if (1 ≤ n ∧ n ≤ 200) ∧ s 0 + n ≤ 9999 then 0 else 2
theorem tTk_or (D : Nat → Int → Int) (s : Int → Int) (n : Int) : D 0 1 = 0 ∧ tTk D s n = 1 ∨ D 0 1 ≠ 0 ∧ ((1 ≤ n ∧ n ≤ 200) ∧ s 0 + n ≤ 9999) ∧ tTk D s n = 0 ∨ D 0 1 ≠ 0 ∧ ¬ ((1 ≤ n ∧ n ≤ 200) ∧ s 0 + n ≤ 9999) ∧ tTk D s n = 2 := by
  unfold tTk
  split
  · omega
  · split <;> omega
/-- a number's bounds -/
def knl (w : Int) : Int := if w = 0 then 1 else if w = 1 then 0 else 1
def knh (w : Int) : Int := if w = 0 then 99 else if w = 1 then 20 else 200
def stl (w : Int) : Int := if w = 0 then 1 else if w = 1 then 0 else 1
def sth (w : Int) : Int := if w = 0 then 4 else if w = 1 then 50 else 50
theorem kn_or (w : Int) : w = 0 ∧ knl w = 1 ∧ knh w = 99 ∨ w = 1 ∧ knl w = 0 ∧ knh w = 20 ∨ w ≠ 0 ∧ w ≠ 1 ∧ knl w = 1 ∧ knh w = 200 := by
  unfold knl knh
  split
  · omega
  · split <;> omega
theorem st_or (w : Int) : w = 0 ∧ stl w = 1 ∧ sth w = 4 ∨ w = 1 ∧ stl w = 0 ∧ sth w = 50 ∨ w ≠ 0 ∧ w ≠ 1 ∧ stl w = 1 ∧ sth w = 50 := by
  unfold stl sth
  split
  · omega
  · split <;> omega
def tRs (D : Nat → Int → Int) (j : Int) : Int := if 0 ≤ j ∧ j ≤ 1 then (if D 9 j = 0 then 2 else 0) else 1
theorem tRs_or (D : Nat → Int → Int) (j : Int) : (0 ≤ j ∧ j ≤ 1) ∧ D 9 j = 0 ∧ tRs D j = 2 ∨ (0 ≤ j ∧ j ≤ 1) ∧ D 9 j ≠ 0 ∧ tRs D j = 0 ∨ ¬ (0 ≤ j ∧ j ≤ 1) ∧ tRs D j = 1 := by
  unfold tRs
  split
  · split <;> omega
  · omega
def tUn (D : Nat → Int → Int) : Int := if D 0 14 = 0 then 1 else 0
theorem tUn_or (D : Nat → Int → Int) : D 0 14 = 0 ∧ tUn D = 1 ∨ D 0 14 ≠ 0 ∧ tUn D = 0 := by
  unfold tUn
  split <;> omega
/-- a signal leaves a stack -/
def e_slv (s : Int → Int) (p k : Int) : Int → Int :=
  let r := ups s (511 + p) (s (511 + p) - 1)
  sfl 6 (6 * (r (511 + p) - k)).toNat (517 + 6 * (4 * p + k)) r
def e_drn (s : Int → Int) (p k : Int) : Int → Int := e_ends (e_slv s p k) (sv s p k 0) 5 p (sv s p k 1)
theorem slv_at {s : Int → Int} {p k e : Int} (hp : 0 ≤ p ∧ p < 6) (hk' : 0 ≤ k ∧ k < s (511 + p)) : e_slv s p k e = if 517 + 6 * (4 * p + k) ≤ e ∧ e < 517 + 6 * (4 * p + (s (511 + p) - 1)) then s (e + 6) else if e = 511 + p then s (511 + p) - 1 else s e := by
  simp only [e_slv]
  rw [sfl_at (by omega), ups_eq]
  by_cases q : 517 + 6 * (4 * p + k) ≤ e ∧ e < 517 + 6 * (4 * p + (s (511 + p) - 1))
  · rw [if_pos (by omega), if_pos q, ups_ne (by omega)]
  · rw [if_neg (by omega), if_neg q]
    rfl
theorem slv_ne {s : Int → Int} {p k e : Int} (hp : 0 ≤ p ∧ p < 6) (hk' : 0 ≤ k ∧ k < s (511 + p)) (hc : s (511 + p) ≤ 4) (h1 : e ≠ 511 + p) (h2 : ¬ (517 + 24 * p ≤ e ∧ e < 517 + 24 * p + 24)) : e_slv s p k e = s e := by
  rw [slv_at hp hk', if_neg (by omega), if_neg h1]
def drpv (D : Nat → Int → Int) (s : Int → Int) (g : Int) : Int := if pnl s g (D 0 4).toNat 0 = -1 then 2 else if pnl s g (D 0 4).toNat 0 < 10 then 0 else 1
def drps (D : Nat → Int → Int) (s : Int → Int) (g : Int) : Int → Int :=
  if pnl s g (D 0 4).toNat 0 = -1 then s
  else if pnl s g (D 0 4).toNat 0 < 10 then e_eiq s (pnl s g (D 0 4).toNat 0) (ffi (fun i => qv s (pnl s g (D 0 4).toNat 0) i 0) g (s (115 + pnl s g (D 0 4).toNat 0)).toNat 0) 5
  else e_drn s (pnl s g (D 0 4).toNat 0 - 10) (ffi (fun i => sv s (pnl s g (D 0 4).toNat 0 - 10) i 0) g (s (511 + (pnl s g (D 0 4).toNat 0 - 10))).toNat 0)
/-- what the place says -/
theorem pnl_spec {s : Int → Int} {g : Int} (hP : ∀ p, 0 ≤ p → p < 6 → 0 ≤ s (115 + p) ∧ 0 ≤ s (511 + p)) : ∀ (n : Nat) (p : Int), 0 ≤ p → p + n ≤ 6 → pnl s g n p = -1 ∨
    ((p ≤ pnl s g n p ∧ pnl s g n p < p + n) ∧ ffi (fun i => qv s (pnl s g n p) i 0) g (s (115 + pnl s g n p)).toNat 0 ≠ -1) ∨
    ((10 + p ≤ pnl s g n p ∧ pnl s g n p < 10 + p + n) ∧ ffi (fun i => sv s (pnl s g n p - 10) i 0) g (s (511 + (pnl s g n p - 10))).toNat 0 ≠ -1)
  | 0, _, _, _ => Or.inl rfl
  | n + 1, p, h, h6 => by
    have ih := pnl_spec (s := s) (g := g) hP n (p + 1) (by omega) (by omega)
    have e : pnl s g (n + 1) p = if ffi (fun i => qv s p i 0) g (s (115 + p)).toNat 0 ≠ -1 then p else if ffi (fun i => sv s p i 0) g (s (511 + p)).toNat 0 ≠ -1 then 10 + p else pnl s g n (p + 1) := rfl
    rw [e]
    by_cases q1 : ffi (fun i => qv s p i 0) g (s (115 + p)).toNat 0 ≠ -1
    · rw [if_pos q1]
      exact Or.inr (Or.inl ⟨by omega, q1⟩)
    · rw [if_neg q1]
      by_cases q2 : ffi (fun i => sv s p i 0) g (s (511 + p)).toNat 0 ≠ -1
      · rw [if_pos q2]
        refine Or.inr (Or.inr ⟨by omega, ?_⟩)
        rw [show 10 + p - 10 = p by omega]
        exact q2
      · rw [if_neg q2]
        rcases ih with h | h | h
        · exact Or.inl h
        · exact Or.inr (Or.inl ⟨by omega, h.2⟩)
        · exact Or.inr (Or.inr ⟨by omega, h.2⟩)
def rfs (p : Int) : Nat → Int → (Int → Int) → Int → Int
  | 0, _, s => s
  | n + 1, k, s => rfs p n (k + 1) (ups s (37 + 8 * p + k) 0)
def rfsum (p : Int) : Nat → Int → (Int → Int) → Int → Int
  | 0, _, _, acc => acc
  | n + 1, k, s, acc => rfsum p n (k + 1) (ups s (37 + 8 * p + k) 0) (acc + td s p k)
