/-! the order of a queue: places and ranks -/
def cn (f : Int → Int) : Nat → Int → Int
  | 0, _ => 0
  | n + 1, o => f o + cn f n (o + 1)
theorem cn_le {f g : Int → Int} : ∀ (n : Nat) (o : Int), (∀ i, o ≤ i → i < o + n → f i ≤ g i) → cn f n o ≤ cn g n o
  | 0, _, _ => Int.le_refl _
  | n + 1, o, h => by
    have h1 := cn_le n (o + 1) (fun i a b => h i (by omega) (by omega))
    have h2 := h o (by omega) (by omega)
    show f o + cn f n (o + 1) ≤ g o + cn g n (o + 1)
    omega
theorem cn_lt {f g : Int → Int} : ∀ (n : Nat) (o x : Int), (∀ i, o ≤ i → i < o + n → f i ≤ g i) → o ≤ x → x < o + n → f x < g x → cn f n o < cn g n o
  | 0, _, _, _, _, _, _ => by omega
  | n + 1, o, x, h, h1, h2, h3 => by
    show f o + cn f n (o + 1) < g o + cn g n (o + 1)
    by_cases q : x = o
    · subst q
      have := cn_le n (x + 1) (fun i a b => h i (by omega) (by omega))
      omega
    · have := cn_lt n (o + 1) x (fun i a b => h i (by omega) (by omega)) (by omega) (by omega) h3
      have := h o (by omega) (by omega)
      omega
theorem cn_bd {f : Int → Int} : ∀ (n : Nat) (o : Int), (∀ i, o ≤ i → i < o + n → 0 ≤ f i ∧ f i ≤ 1) → 0 ≤ cn f n o ∧ cn f n o ≤ n
  | 0, _, _ => by show (0 : Int) ≤ 0 ∧ (0 : Int) ≤ ((0 : Nat) : Int); omega
  | n + 1, o, h => by
    have h1 := cn_bd n (o + 1) (fun i a b => h i (by omega) (by omega))
    have h2 := h o (by omega) (by omega)
    show 0 ≤ f o + cn f n (o + 1) ∧ f o + cn f n (o + 1) ≤ ((n + 1 : Nat) : Int)
    omega
/-- one of them counts nothing -/
theorem cn_bd1 {f : Int → Int} (n : Nat) (o x : Int) (h : ∀ i, o ≤ i → i < o + n → 0 ≤ f i ∧ f i ≤ 1) (h1 : o ≤ x) (h2 : x < o + n) (h3 : f x = 0) : cn f n o < n := by
  have h4 := cn_lt (f := f) (g := fun _ => 1) n o x (fun i a b => (h i a b).2) h1 h2 (by rw [h3]; decide)
  have h5 := cn_bd (f := fun _ => 1) n o (fun i _ _ => ⟨by decide, by decide⟩)
  omega
theorem cn_all {f : Int → Int} (x : Int) : ∀ (n : Nat) (o : Int), (∀ i, o ≤ i → i < o + n → i ≠ x → f i = 1) → o ≤ x → x < o + n → f x = 0 → cn f n o = n - 1
  | 0, _, _, _, _, _ => by omega
  | n + 1, o, h, h1, h2, h3 => by
    show f o + cn f n (o + 1) = _
    by_cases q : x = o
    · subst q
      have e1 : ∀ (m : Nat) (o' : Int), x < o' → o' + m ≤ x + (n + 1 : Nat) → cn f m o' = m := by
        intro m
        induction m with
        | zero => intro _ _ _; rfl
        | succ m ih =>
          intro o' a b
          show f o' + cn f m (o' + 1) = _
          rw [ih (o' + 1) (by omega) (by omega), h o' (by omega) (by omega) (by omega)]
          omega
      rw [e1 n (x + 1) (by omega) (by omega), h3]
      omega
    · rw [cn_all x n (o + 1) (fun i a b c => h i (by omega) (by omega) c) (by omega) (by omega) h3, h o (by omega) (by omega) (fun e => q e.symm)]
      omega
/-- an injective map of the first n into the first n meets each -/
theorem pigeon : ∀ (n : Nat) (f : Int → Int), (∀ i : Int, 0 ≤ i → i < n → 0 ≤ f i ∧ f i < n) → (∀ i j : Int, 0 ≤ i → i < n → 0 ≤ j → j < n → f i = f j → i = j) → ∀ x : Int, 0 ≤ x → x < n → ∃ k : Int, 0 ≤ k ∧ k < n ∧ f k = x
  | 0, _, _, _, x, h1, h2 => by omega
  | n + 1, f, hr, hi, x, h1, h2 => by
    have hn := hr n (by omega) (by omega)
    by_cases q : x = f n
    · exact ⟨n, by omega, by omega, q.symm⟩
    · let g : Int → Int := fun i => if f i = n then f n else f i
      have hg : ∀ i : Int, 0 ≤ i → i < n → 0 ≤ g i ∧ g i < n := by
        intro i a b
        have r := hr i a (by omega)
        show 0 ≤ (if f i = n then f n else f i) ∧ (if f i = n then f n else f i) < n
        split
        · have : f n ≠ n := fun e => by
            have := hi i n a (by omega) (by omega) (by omega) (by omega)
            omega
          omega
        · omega
      have hj : ∀ i j : Int, 0 ≤ i → i < n → 0 ≤ j → j < n → g i = g j → i = j := by
        intro i j a b c d e
        have e : (if f i = n then f n else f i) = (if f j = n then f n else f j) := e
        by_cases u : f i = n <;> by_cases v : f j = n
        · exact hi i j a (by omega) c (by omega) (by omega)
        · rw [if_pos u, if_neg v] at e
          have := hi n j (by omega) (by omega) c (by omega) e
          omega
        · rw [if_neg u, if_pos v] at e
          have := hi i n a (by omega) (by omega) (by omega) e
          omega
        · rw [if_neg u, if_neg v] at e
          exact hi i j a (by omega) c (by omega) e
      by_cases q2 : x = n
      · obtain ⟨k, k1, k2, k3⟩ := pigeon n g hg hj (f n) hn.1 (by omega)
        have k3 : (if f k = n then f n else f k) = f n := k3
        by_cases u : f k = n
        · exact ⟨k, k1, by omega, by omega⟩
        · rw [if_neg u] at k3
          have := hi k n k1 (by omega) (by omega) (by omega) k3
          omega
      · obtain ⟨k, k1, k2, k3⟩ := pigeon n g hg hj x h1 (by omega)
        have k3 : (if f k = n then f n else f k) = x := k3
        by_cases u : f k = n
        · rw [if_pos u] at k3
          exact absurd k3.symm q
        · rw [if_neg u] at k3
          exact ⟨k, k1, by omega, k3⟩
section RANK
variable {s : Int → Int} {p : Int}
theorem cntl_cn (k : Int) : ∀ (n : Nat) (o acc : Int), cntl s p k n o acc = acc + cn (fun o => if o = k then 0 else ahd s p o k) n o
  | 0, _, acc => (Int.add_zero acc).symm
  | n + 1, o, acc => by
    show cntl s p k n (o + 1) (acc + (if o = k then 0 else ahd s p o k)) = acc + ((if o = k then 0 else ahd s p o k) + cn _ n (o + 1))
    rw [cntl_cn k n]
    omega
theorem ahd_01 (k o : Int) : ahd s p k o = 0 ∨ ahd s p k o = 1 := by
  unfold ahd
  split <;> split <;> omega
/-- ahead, by urgencies and places -/
theorem ahd_iff (k o : Int) : ahd s p k o = 1 ↔ (ur s p (qv s p o 1) < ur s p (qv s p k 1) ∨ ur s p (qv s p k 1) = ur s p (qv s p o 1) ∧ k < o) := by
  unfold ahd
  split <;> split <;> omega
def rnk (s : Int → Int) (p k : Int) : Int := cntl s p k (s (115 + p)).toNat 0 0
theorem rnk_cn (k : Int) : rnk s p k = cn (fun o => if o = k then 0 else ahd s p o k) (s (115 + p)).toNat 0 := by
  unfold rnk
  rw [cntl_cn]
  omega
theorem rnk_lt {k : Int} (hk : 0 ≤ k ∧ k < s (115 + p)) : 0 ≤ rnk s p k ∧ rnk s p k < s (115 + p) := by
  have h : ∀ i, (0 : Int) ≤ i → i < 0 + ((s (115 + p)).toNat : Int) → 0 ≤ (if i = k then 0 else ahd s p i k) ∧ (if i = k then 0 else ahd s p i k) ≤ 1 := by
    intro i _ _
    have := ahd_01 (s := s) (p := p) i k
    split <;> omega
  rw [rnk_cn]
  have h1 := cn_bd _ 0 h
  have h2 := cn_bd1 _ 0 k h (by omega) (by omega) (by show (if k = k then (0 : Int) else ahd s p k k) = 0; rw [if_pos rfl])
  omega
theorem rnk_ahd {a b : Int} (ha : 0 ≤ a ∧ a < s (115 + p)) (h : ahd s p a b = 1) : rnk s p a < rnk s p b := by
  rw [rnk_cn, rnk_cn]
  have hab := (ahd_iff a b).mp h
  have hne : a ≠ b := fun e => by subst e; omega
  refine cn_lt _ 0 a (fun i h1 h2 => ?_) (by omega) (by omega) ?_
  · show (if i = a then (0 : Int) else ahd s p i a) ≤ (if i = b then 0 else ahd s p i b)
    have x1 := ahd_01 (s := s) (p := p) i a
    have x2 := ahd_01 (s := s) (p := p) i b
    have y1 := ahd_iff (s := s) (p := p) i a
    have y2 := ahd_iff (s := s) (p := p) i b
    by_cases u : i = a
    · rw [if_pos u]; split <;> omega
    · rw [if_neg u]
      by_cases v : i = b
      · rw [if_pos v]
        subst v
        omega
      · rw [if_neg v]
        omega
  · show (if a = a then (0 : Int) else ahd s p a a) < (if a = b then 0 else ahd s p a b)
    rw [if_pos rfl, if_neg hne, h]
    decide
theorem rnk_inj {a b : Int} (ha : 0 ≤ a ∧ a < s (115 + p)) (hb : 0 ≤ b ∧ b < s (115 + p)) (h : rnk s p a = rnk s p b) : a = b := by
  have x1 := ahd_iff (s := s) (p := p) a b
  have x2 := ahd_iff (s := s) (p := p) b a
  have x3 := ahd_01 (s := s) (p := p) a b
  have x4 := ahd_01 (s := s) (p := p) b a
  by_cases u : ahd s p a b = 1
  · have := rnk_ahd ha u; omega
  · by_cases v : ahd s p b a = 1
    · have := rnk_ahd hb v; omega
    · omega
theorem plcl_spec (x : Int) : ∀ (n : Nat) (k : Int), (plcl s p x n k = -1 ∧ ∀ i, k ≤ i → i < k + n → rnk s p i ≠ x) ∨ (k ≤ plcl s p x n k ∧ plcl s p x n k < k + n ∧ rnk s p (plcl s p x n k) = x)
  | 0, k => Or.inl ⟨rfl, fun i _ _ => by omega⟩
  | n + 1, k => by
    have e : plcl s p x (n + 1) k = if rnk s p k = x then k else plcl s p x n (k + 1) := rfl
    rw [e]
    by_cases q : rnk s p k = x
    · rw [if_pos q]
      exact Or.inr ⟨by omega, by omega, q⟩
    · rw [if_neg q]
      rcases plcl_spec x n (k + 1) with ⟨h1, h2⟩ | ⟨h1, h2, h3⟩
      · refine Or.inl ⟨h1, fun i a b => ?_⟩
        by_cases u : i = k
        · rw [u]; exact q
        · exact h2 i (by omega) (by omega)
      · exact Or.inr ⟨by omega, by omega, h3⟩
theorem plc_spec {x : Int} (hx : 0 ≤ x ∧ x < s (115 + p)) : (0 ≤ plc s p x ∧ plc s p x < s (115 + p)) ∧ rnk s p (plc s p x) = x := by
  unfold plc
  rcases plcl_spec (s := s) (p := p) x (s (115 + p)).toNat 0 with ⟨-, h2⟩ | ⟨h1, h2, h3⟩
  · obtain ⟨k, k1, k2, k3⟩ := pigeon (s (115 + p)).toNat (rnk s p) (fun i a b => by have := rnk_lt (s := s) (p := p) (k := i) ⟨a, by omega⟩; omega) (fun i j a b c d e => rnk_inj ⟨a, by omega⟩ ⟨c, by omega⟩ e) x hx.1 (by omega)
    exact absurd k3 (h2 k k1 (by omega))
  · exact ⟨⟨h1, by omega⟩, h3⟩
/-- the last in the order -/
theorem plc_last {a : Int} (ha : 0 ≤ a ∧ a < s (115 + p)) (h : ∀ o, 0 ≤ o → o < s (115 + p) → o ≠ a → ahd s p o a = 1) : plc s p (s (115 + p) - 1) = a := by
  have h1 := plc_spec (s := s) (p := p) (x := s (115 + p) - 1) ⟨by omega, by omega⟩
  refine rnk_inj h1.1 ha ?_
  rw [h1.2, rnk_cn, cn_all a _ 0 (fun i x y z => by show (if i = a then (0 : Int) else ahd s p i a) = 1; rw [if_neg z]; exact h i x (by omega) z) (by omega) (by omega) (by show (if a = a then (0 : Int) else ahd s p a a) = 0; rw [if_pos rfl])]
  omega
end RANK
