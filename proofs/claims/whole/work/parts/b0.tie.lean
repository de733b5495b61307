/-! the class's object (at 64) against the model's rows -/
/-- a byte with its sign -/
def sgb (x : Int) : Int := if x < 128 then x else x - 256
/-- names: their lengths and letters against the model's row -/
def NR (ln lt f : Int → Int) (K : Int) : Prop := ∀ k, 0 ≤ k → k < K → (1 ≤ ln k ∧ ln k ≤ 7) ∧ (∀ i, 0 ≤ i → i < ln k → lt (7 * k + i) = f (7 * k + i) ∧ 97 ≤ f (7 * k + i) ∧ f (7 * k + i) ≤ 122) ∧ ∀ i, ln k ≤ i → i < 7 → f (7 * k + i) = 0
/-- the plan -/
def PT (EP D : Nat → Int → Int) : Prop := PRr EP D ∧ NR (EP 2) (EP 3) (D 1) (D 0 3) ∧ NR (EP 5) (EP 6) (D 2) (D 0 4) ∧ D 0 5 = hcn (D 3) 48 ∧ ∀ g, 0 ≤ g → g < 48 → 0 < D 3 g → g / 8 < D 0 4 ∧ g % 8 < D 0 3
/-- the object: where its plan B and its hall A lie; its numbers -/
def XC (h : PH) (B A : Nat) : Prop := hk h 64 = 7 ∧ hr h 64 0 = 65 ∧ hr h 64 5 = B ∧ hr h 64 6 = A ∧ hr h 64 14 = 117
def XI (h : PH) (D : Nat → Int → Int) : Prop := hi h 64 1 = D 0 17 ∧ hi h 64 2 = D 0 18 ∧ hi h 64 3 = D 0 19 ∧ hi h 64 4 = D 0 1 ∧ (D 0 1 = 0 ∨ D 0 1 = 1)
def FT (h : PH) (B A : Nat) (EP E D : Nat → Int → Int) (s : Int → Int) : Prop := XC h B A ∧ XI h D ∧ Px B h h EP ∧ Hx A h h E ∧ (D 0 1 ≠ 0 → HR E (D 0 2) (D 0 3) s ∧ PT EP D)
section FT
variable {h : PH} {B A : Nat} {EP E D : Nat → Int → Int} {s : Int → Int}
theorem FT.k (T : FT h B A EP E D s) : hk h 64 = 7 := T.1.1
theorem FT.r0 (T : FT h B A EP E D s) : hr h 64 0 = 65 := T.1.2.1
theorem FT.r5 (T : FT h B A EP E D s) : hr h 64 5 = B := T.1.2.2.1
theorem FT.r6 (T : FT h B A EP E D s) : hr h 64 6 = A := T.1.2.2.2.1
theorem FT.r14 (T : FT h B A EP E D s) : hr h 64 14 = 117 := T.1.2.2.2.2
theorem FT.f1 (T : FT h B A EP E D s) : hi h 64 1 = D 0 17 := T.2.1.1
theorem FT.f2 (T : FT h B A EP E D s) : hi h 64 2 = D 0 18 := T.2.1.2.1
theorem FT.f3 (T : FT h B A EP E D s) : hi h 64 3 = D 0 19 := T.2.1.2.2.1
theorem FT.f4 (T : FT h B A EP E D s) : hi h 64 4 = D 0 1 := T.2.1.2.2.2.1
theorem FT.l01 (T : FT h B A EP E D s) : D 0 1 = 0 ∨ D 0 1 = 1 := T.2.1.2.2.2.2
theorem FT.L (T : FT h B A EP E D s) : Px B h h EP := T.2.2.1
theorem FT.M (T : FT h B A EP E D s) : Hx A h h E := T.2.2.2.1
theorem FT.u (T : FT h B A EP E D s) (h1 : D 0 1 ≠ 0) : HR E (D 0 2) (D 0 3) s ∧ PT EP D := T.2.2.2.2 h1
theorem PT.k (T : PT EP D) : EP 1 2 = D 0 3 := T.1.1.1
theorem PT.p (T : PT EP D) : EP 4 2 = D 0 4 := T.1.1.2
theorem PT.t (T : PT EP D) {p k : Int} (hp : 0 ≤ p ∧ p < 6) (hk : 0 ≤ k ∧ k < 8) : EP 7 (p * 8 + k) = D 3 (8 * p + k) ∧ EP 8 (p * 8 + k) = D 4 (8 * p + k) := by
  rw [show p * 8 + k = 8 * p + k by omega]
  exact T.1.2.1 _ (by omega) (by omega)
theorem PT.a (T : PT EP D) {p k i w : Int} (hp : 0 ≤ p ∧ p < 6) (hk : 0 ≤ k ∧ k < 8) (hi : 0 ≤ i ∧ i < D 4 (8 * p + k)) (hw : 0 ≤ w ∧ w < 4) : EP 9 (((p * 8 + k) * 4 + i) * 4 + w) = D 5 (4 * (4 * (8 * p + k) + i) + w) := by
  rw [show p * 8 + k = 8 * p + k by omega]
  exact T.1.2.2 _ i w (by omega) (by omega) hi.1 hi.2 hw.1 hw.2
end FT
/-! counts over the plan and the hall -/
def hcs (f : Int → Int) : Nat → Int → Int
  | 0, _ => 0
  | n + 1, a => (if 0 < f a then 1 else 0) + hcs f n (a + 1)
theorem hcs_add (f : Int → Int) (n : Nat) : ∀ (m : Nat) (a : Int), hcs f (m + n) a = hcs f m a + hcs f n (a + m)
  | 0, a => by
    show hcs f (0 + n) a = 0 + hcs f n (a + ((0 : Nat) : Int))
    rw [Nat.zero_add, show a + ((0 : Nat) : Int) = a by omega]
    omega
  | m + 1, a => by
    have e : hcs f (m + 1 + n) a = (if 0 < f a then 1 else 0) + hcs f (m + n) (a + 1) := by
      rw [show m + 1 + n = (m + n) + 1 by omega]
      rfl
    have e2 : hcs f (m + 1) a = (if 0 < f a then 1 else 0) + hcs f m (a + 1) := rfl
    rw [e, e2, hcs_add f n m (a + 1), show a + 1 + (m : Int) = a + ((m + 1 : Nat) : Int) by omega]
    omega
theorem hcs_zero {f : Int → Int} : ∀ {n : Nat} {a : Int}, (∀ i, a ≤ i → i < a + n → f i ≤ 0) → hcs f n a = 0
  | 0, _, _ => rfl
  | n + 1, a, h => by
    show (if 0 < f a then 1 else 0) + hcs f n (a + 1) = 0
    rw [hcs_zero (fun i x y => h i (by omega) (by omega)), if_neg (by have := h a (by omega) (by omega); omega)]
    rfl
theorem hcn_hcs (f : Int → Int) : ∀ n : Nat, hcn f n = hcs f n 0
  | 0 => rfl
  | n + 1 => by
    show hcn f n + (if 0 < f n then 1 else 0) = _
    rw [hcn_hcs f n, hcs_add f 1 n 0]
    show _ = _ + ((if 0 < f (0 + (n : Int)) then 1 else 0) + 0)
    rw [show 0 + (n : Int) = n by omega]
    omega
theorem hofl_hcs (D : Nat → Int → Int) (p : Int) : ∀ (n : Nat) (k acc : Int), hofl D p n k acc = acc + hcs (D 3) n (8 * p + k)
  | 0, _, acc => by show acc = acc + 0; omega
  | n + 1, k, acc => by
    show hofl D p n (k + 1) (acc + (if 0 < D 3 (8 * p + k) then 1 else 0)) = acc + ((if 0 < D 3 (8 * p + k) then 1 else 0) + hcs (D 3) n (8 * p + k + 1))
    rw [hofl_hcs D p n, show 8 * p + (k + 1) = 8 * p + k + 1 by omega]
    omega
def hal (D : Nat → Int → Int) : Nat → Int → Int → Int
  | 0, _, acc => acc
  | n + 1, p, acc => hal D n (p + 1) (acc + hof D p)
section HAL
variable {EP D : Nat → Int → Int}
theorem hof_hcs (U : PT EP D) (V : PIv D) {p : Int} (hp : 0 ≤ p ∧ p < 6) : hof D p = hcs (D 3) 8 (8 * p) := by
  have v3 := V.2.1
  unfold hof
  rw [hofl_hcs, show (8 : Nat) = (D 0 3).toNat + (8 - (D 0 3).toNat) by omega, hcs_add]
  rw [hcs_zero (n := 8 - (D 0 3).toNat) (fun i a b => ?_), show 8 * p + 0 = 8 * p by omega]
  · omega
  · have := U.2.2.2.2 i (by omega) (by omega)
    omega
theorem hal_hcs (U : PT EP D) (V : PIv D) : ∀ (n : Nat) (p acc : Int), 0 ≤ p → p + n ≤ 6 → hal D n p acc = acc + hcs (D 3) (8 * n) (8 * p)
  | 0, _, acc, _, _ => by show acc = acc + 0; omega
  | n + 1, p, acc, h0, h1 => by
    show hal D n (p + 1) (acc + hof D p) = _
    rw [hal_hcs U V n (p + 1) _ (by omega) (by omega), hof_hcs U V ⟨h0, by omega⟩, show 8 * (n + 1) = 8 + 8 * n by omega, hcs_add, show 8 * (p + 1) = 8 * p + ((8 : Nat) : Int) by omega]
    omega
theorem hal_5 (U : PT EP D) (V : PIv D) : hal D (D 0 4).toNat 0 0 = D 0 5 := by
  have v4 := V.2.2.1
  rw [hal_hcs U V _ _ _ (by omega) (by omega), U.2.2.2.1, hcn_hcs, show (48 : Nat) = 8 * (D 0 4).toNat + (48 - 8 * (D 0 4).toNat) by omega, hcs_add]
  rw [hcs_zero (n := 48 - 8 * (D 0 4).toNat) (fun i a b => ?_)]
  · rw [show (8 : Int) * 0 = 0 by omega]
    omega
  · have := U.2.2.2.2 i (by omega) (by omega)
    omega
end HAL
theorem suml_add (s : Int → Int) (a : Int) (n : Nat) : ∀ (m : Nat) (p acc : Int), suml s a (m + n) p acc = suml s a n (p + m) (suml s a m p acc)
  | 0, p, acc => by
    rw [Nat.zero_add, show p + ((0 : Nat) : Int) = p by omega]
    rfl
  | m + 1, p, acc => by
    have e : suml s a (m + 1 + n) p acc = suml s a (m + n) (p + 1) (acc + s (a + p)) := by
      rw [show m + 1 + n = (m + n) + 1 by omega]
      rfl
    rw [e, suml_add s a n m, show p + 1 + (m : Int) = p + ((m + 1 : Nat) : Int) by omega]
    rfl
theorem suml_zero {s : Int → Int} {a : Int} : ∀ (n : Nat) (p acc : Int), (∀ q, p ≤ q → q < p + n → s (a + q) = 0) → suml s a n p acc = acc
  | 0, _, _, _ => rfl
  | n + 1, p, acc, h => by
    show suml s a n (p + 1) (acc + s (a + p)) = acc
    rw [suml_zero n _ _ (fun q x y => h q (by omega) (by omega)), h p (by omega) (by omega)]
    omega
theorem suml_6 {K P c N : Int} {s : Int → Int} {a : Int} (I : HI K P c N s) (ha : a = 115 ∨ a = 511) (hP : 0 ≤ P ∧ P ≤ 6) : suml s a 6 0 0 = suml s a P.toNat 0 0 := by
  rw [show (6 : Nat) = P.toNat + (6 - P.toNat) by omega, suml_add, suml_zero]
  intro q h0 h1
  have := I.hz.1 q (by omega) (by omega)
  rcases ha with e | e <;> rw [e]
  · exact this.1
  · exact this.2
/-- the first program among n from p on in whose list a signal is -/
def ppl (s : Int → Int) (g a : Int) (f : (Int → Int) → Int → Int → Int → Int) : Nat → Int → Int
  | 0, _ => -1
  | n + 1, p => if ffi (fun i => f s p i 0) g (s (a + p)).toNat 0 ≠ -1 then p else ppl s g a f n (p + 1)
theorem ppl_spec {s : Int → Int} {g a : Int} {f : (Int → Int) → Int → Int → Int → Int} : ∀ (n : Nat) (p : Int), 0 ≤ p → (ppl s g a f n p = -1 ∧ ∀ q, p ≤ q → q < p + n → ffi (fun i => f s q i 0) g (s (a + q)).toNat 0 = -1) ∨ ((p ≤ ppl s g a f n p ∧ ppl s g a f n p < p + n) ∧ ffi (fun i => f s (ppl s g a f n p) i 0) g (s (a + ppl s g a f n p)).toNat 0 ≠ -1 ∧ ∀ q, p ≤ q → q < ppl s g a f n p → ffi (fun i => f s q i 0) g (s (a + q)).toNat 0 = -1)
  | 0, p, _ => Or.inl ⟨rfl, fun q a b => by omega⟩
  | n + 1, p, h => by
    by_cases c : ffi (fun i => f s p i 0) g (s (a + p)).toNat 0 ≠ -1
    · have e : ppl s g a f (n + 1) p = p := if_pos c
      rw [e]
      exact Or.inr ⟨⟨by omega, by omega⟩, c, fun q a b => by omega⟩
    · have e : ppl s g a f (n + 1) p = ppl s g a f n (p + 1) := if_neg c
      rw [e]
      have c' : ffi (fun i => f s p i 0) g (s (a + p)).toNat 0 = -1 := by omega
      rcases ppl_spec (s := s) (g := g) (a := a) (f := f) n (p + 1) (by omega) with h1 | h1
      · refine Or.inl ⟨h1.1, fun q a b => ?_⟩
        by_cases e : q = p
        · rw [e]; exact c'
        · exact h1.2 q (by omega) (by omega)
      · refine Or.inr ⟨⟨by omega, by omega⟩, h1.2.1, fun q a b => ?_⟩
        by_cases e : q = p
        · rw [e]; exact c'
        · exact h1.2.2 q (by omega) (by omega)
