/-! what is asked -/
def suml (s : Int → Int) (a : Int) : Nat → Int → Int → Int
  | 0, _, acc => acc
  | n + 1, p, acc => suml s a n (p + 1) (acc + s (a + p))
def hofl (D : Nat → Int → Int) (p : Int) : Nat → Int → Int → Int
  | 0, _, acc => acc
  | n + 1, k, acc => hofl D p n (k + 1) (acc + (if 0 < D 3 (8 * p + k) then 1 else 0))
def hof (D : Nat → Int → Int) (p : Int) : Int := hofl D p (D 0 3).toNat 0 0
def cntv (D : Nat → Int → Int) (s : Int → Int) (w : Int) : Int := if w = 0 then D 0 3 else if w = 1 then D 0 4 else if w = 2 then D 0 5 else if w = 3 then s 0 else if w = 4 then s 1 else if w = 5 then suml s 115 (D 0 4).toNat 0 0 else if w = 6 then suml s 511 (D 0 4).toNat 0 0 else if w = 13 then tld s else s (4 + w - 7)
def prgv (D : Nat → Int → Int) (s : Int → Int) (p w : Int) : Int := if w = 0 then s (115 + p) else if w = 1 then s (511 + p) else if w = 2 then s (85 + p) else if w = 3 then hof D p else s (91 + 4 * p + w - 4)
def hdlv (D : Nat → Int → Int) (p k w : Int) : Int := if D 3 (8 * p + k) = 0 then -1 else if w = 0 then D 3 (8 * p + k) else if w = 1 then D 4 (8 * p + k) else if 10 ≤ w ∧ Int.tmod w 10 < 4 ∧ Int.tdiv w 10 ≤ D 4 (8 * p + k) then D 5 (4 * (4 * (8 * p + k) + Int.tdiv w 10 - 1) + Int.tmod w 10) else -1
def pnl (s : Int → Int) (g : Int) : Nat → Int → Int
  | 0, _ => -1
  | n + 1, p => if ffi (fun i => qv s p i 0) g (s (115 + p)).toNat 0 ≠ -1 then p else if ffi (fun i => sv s p i 0) g (s (511 + p)).toNat 0 ≠ -1 then 10 + p else pnl s g n (p + 1)
def wis (D : Nat → Int → Int) (s : Int → Int) (g : Int) : Int := if pnl s g (D 0 4).toNat 0 ≠ -1 then pnl s g (D 0 4).toNat 0 else if tef s g (tld s).toNat 0 = -1 then -1 else 20 + tef s g (tld s).toNat 0
def nxv (s : Int → Int) (p : Int) : Int := if nxt s p = -1 then -1 else qv s p (nxt s p) 0
def bsl (s : Int → Int) : Nat → Int → Int → Int
  | 0, _, best => best
  | n + 1, p, best => bsl s n (p + 1) (if best = -1 ∨ s (115 + best) < s (115 + p) then p else best)
def trl (s : Int → Int) (p : Int) : Nat → Int → Int → Int
  | 0, _, best => best
  | n + 1, k, best => trl s p n (k + 1) (if best = -1 ∨ td s p best < td s p k then k else best)
def ool (s : Int → Int) : Nat → Int → Int → Int
  | 0, _, l => l
  | n + 1, p, l => ool s n (p + 1) (if 0 < s (115 + p) ∧ (l = -1 ∨ qv s p 0 0 < l) then qv s p 0 0 else l)
def losv (D : Nat → Int → Int) (s : Int → Int) (p k : Int) : Int := if s (115 + p) < D 0 2 then -1 else if ur s p k ≤ ur s p (qv s p (plc s p (s (115 + p) - 1)) 1) then s 1 else qv s p (plc s p (s (115 + p) - 1)) 0
/-- whether an act of n ones from i on raises a kind -/
def ral (D : Nat → Int → Int) (hd k : Int) : Nat → Int → Int
  | 0, _ => 0
  | n + 1, i => if D 5 (4 * (4 * hd + i)) = 0 ∧ D 5 (4 * (4 * hd + i) + 1) = k then 1 else ral D hd k n (i + 1)
def rak (D : Nat → Int → Int) (p k : Int) : Nat → Int → Int
  | 0, _ => 0
  | n + 1, j => if ral D (8 * p + j) k (D 4 (8 * p + j)).toNat 0 = 1 then 1 else rak D p k n (j + 1)
def rasl (D : Nat → Int → Int) (k : Int) : Nat → Int → Int → Int
  | 0, _, acc => acc
  | n + 1, p, acc => rasl D k n (p + 1) (bor acc (bshl (rak D p k (D 0 3).toNat 0) p))
theorem ral_01 {D : Nat → Int → Int} {hd k : Int} : ∀ (n : Nat) (i : Int), ral D hd k n i = 0 ∨ ral D hd k n i = 1
  | 0, _ => Or.inl rfl
  | n + 1, i => by
    show (if D 5 (4 * (4 * hd + i)) = 0 ∧ D 5 (4 * (4 * hd + i) + 1) = k then 1 else ral D hd k n (i + 1)) = 0 ∨ (if D 5 (4 * (4 * hd + i)) = 0 ∧ D 5 (4 * (4 * hd + i) + 1) = k then 1 else ral D hd k n (i + 1)) = 1
    split
    · exact Or.inr rfl
    · exact ral_01 n (i + 1)
theorem rak_01 {D : Nat → Int → Int} {p k : Int} : ∀ (n : Nat) (j : Int), rak D p k n j = 0 ∨ rak D p k n j = 1
  | 0, _ => Or.inl rfl
  | n + 1, j => by
    show (if ral D (8 * p + j) k (D 4 (8 * p + j)).toNat 0 = 1 then 1 else rak D p k n (j + 1)) = 0 ∨ (if ral D (8 * p + j) k (D 4 (8 * p + j)).toNat 0 = 1 then 1 else rak D p k n (j + 1)) = 1
    split
    · exact Or.inr rfl
    · exact rak_01 n (j + 1)
theorem pnl_rng {s : Int → Int} {g : Int} : ∀ (n : Nat) (p : Int), 0 ≤ p → pnl s g n p = -1 ∨ 0 ≤ pnl s g n p ∧ pnl s g n p < 10 + p + n
  | 0, _, _ => Or.inl rfl
  | n + 1, p, h => by
    have ih := pnl_rng (s := s) (g := g) n (p + 1) (by omega)
    have e : pnl s g (n + 1) p = if ffi (fun i => qv s p i 0) g (s (115 + p)).toNat 0 ≠ -1 then p else if ffi (fun i => sv s p i 0) g (s (511 + p)).toNat 0 ≠ -1 then 10 + p else pnl s g n (p + 1) := rfl
    rw [e]
    split
    · omega
    · split <;> omega
