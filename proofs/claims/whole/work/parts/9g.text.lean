/-! texts as lists -/
def pw : Nat → Int
  | 0 => 1
  | n + 1 => 10 * pw n
def pwz : Nat → Int
  | 0 => 0
  | n + 1 => pw n
def dv (v : Int) : Nat → Int
  | 0 => v
  | n + 1 => dv v n / 10
def dgl (v : Int) : Nat → List Int
  | 0 => []
  | n + 1 => (48 + dv v n % 10) :: dgl v n
def ndl (v : Int) : Nat → Nat → Nat
  | 0, n => n
  | f + 1, n => if 0 < dv v (n + 1) then ndl v f (n + 1) else n
def numL (v : Int) : List Int := dgl v (ndl v 9 0 + 1)
def chL (f : Int → Int) : Nat → Int → List Int
  | 0, _ => []
  | n + 1, i => if f i = 0 then [] else f i :: chL f n (i + 1)
def kndL (D : Nat → Int → Int) (k : Int) : List Int := chL (fun i => D 1 (7 * k + i)) 7 0
def sepL (l : List Int) (c : Int) : List Int := if l.length = 0 then l else l ++ [c]
theorem pw_pos : ∀ n : Nat, 1 ≤ pw n
  | 0 => by decide
  | n + 1 => by
    have := pw_pos n
    show 1 ≤ 10 * pw n
    omega
theorem pw_9 : ∀ n : Nat, n < 10 → pw n ≤ 1000000000 := by decide
theorem dv_pos {v : Int} (h : 0 ≤ v) : ∀ n : Nat, 0 ≤ dv v n ∧ dv v n ≤ v
  | 0 => ⟨h, by show v ≤ v; omega⟩
  | n + 1 => by
    have := dv_pos h n
    show 0 ≤ dv v n / 10 ∧ dv v n / 10 ≤ v
    omega
theorem dv_pw (v : Int) : ∀ n : Nat, v / pw n = dv v n
  | 0 => by show v / 1 = v; omega
  | n + 1 => by
    have h := dv_pw v n
    have p := pw_pos n
    show v / (10 * pw n) = dv v n / 10
    rw [← h, Int.mul_comm, Int.ediv_ediv_of_nonneg (by omega)]
theorem dv_t {v : Int} (h : 0 ≤ v) (n : Nat) : Int.tdiv v (pw n) = dv v n := by
  rw [Int.tdiv_eq_ediv_of_nonneg h, dv_pw]
theorem dv_9 {v : Int} (h : 0 ≤ v ∧ v ≤ 999999999) : dv v 9 = 0 := by
  show v / 10 / 10 / 10 / 10 / 10 / 10 / 10 / 10 / 10 = 0
  omega
theorem pwz_t : ∀ n : Nat, Int.tdiv (pw n) 10 = pwz n
  | 0 => by decide
  | n + 1 => by
    have := pw_pos n
    show Int.tdiv (10 * pw n) 10 = pw n
    rw [Int.tdiv_eq_ediv_of_nonneg (by omega)]
    omega
theorem dgl_len (v : Int) : ∀ n : Nat, (dgl v n).length = n
  | 0 => rfl
  | n + 1 => by show (dgl v n).length + 1 = n + 1; rw [dgl_len v n]
theorem ndl_le (v : Int) : ∀ f n : Nat, n ≤ ndl v f n ∧ ndl v f n ≤ n + f
  | 0, n => ⟨Nat.le_refl _, Nat.le_refl _⟩
  | f + 1, n => by
    show n ≤ (if 0 < dv v (n + 1) then ndl v f (n + 1) else n) ∧ (if 0 < dv v (n + 1) then ndl v f (n + 1) else n) ≤ n + (f + 1)
    have := ndl_le v f (n + 1)
    split <;> omega
theorem num_len (v : Int) : 1 ≤ (numL v).length ∧ (numL v).length ≤ 10 := by
  unfold numL
  rw [dgl_len]
  have := ndl_le v 9 0
  omega
theorem ch_len (f : Int → Int) : ∀ (n : Nat) (i : Int), (chL f n i).length ≤ n
  | 0, _ => Nat.le_refl _
  | n + 1, i => by
    have := ch_len f n (i + 1)
    show (if f i = 0 then [] else f i :: chL f n (i + 1)).length ≤ n + 1
    split
    · exact Nat.zero_le _
    · show (chL f n (i + 1)).length + 1 ≤ n + 1; omega
theorem sep_len (l : List Int) (c : Int) : (sepL l c).length ≤ l.length + 1 := by
  unfold sepL
  split
  · omega
  · rw [List.length_append]; exact Nat.le_refl _
theorem getD_last : ∀ (l : List Int) (c : Int), (l ++ [c]).getD l.length 0 = c
  | [], _ => rfl
  | _ :: l, c => getD_last l c
theorem getD_left : ∀ (l m : List Int) (i : Nat), i < l.length → (l ++ m).getD i 0 = l.getD i 0
  | [], _, _, h => absurd h (Nat.not_lt_zero _)
  | _ :: _, _, 0, _ => rfl
  | _ :: l, m, i + 1, h => getD_left l m i (Nat.lt_of_succ_lt_succ h)
/-- the model's text is l, all else as in E -/
def TX (E D : Nat → Int → Int) (l : List Int) : Prop := D 0 46 = l.length ∧ (∀ i : Nat, i < l.length → D 19 i = l.getD i 0) ∧ (∀ j, j ≠ 0 → j ≠ 19 → D j = E j) ∧ ∀ e, e ≠ 46 → D 0 e = E 0 e
theorem TX.put {E D : Nat → Int → Int} {l : List Int} (T : TX E D l) (c : Int) : TX E (dst (dst D 19 (D 0 46) c) 0 46 (D 0 46 + 1)) (l ++ [c]) := by
  obtain ⟨t1, t2, t3, t4⟩ := T
  refine ⟨?_, fun i hi => ?_, fun j h0 h1 => ?_, fun e he => ?_⟩
  · rw [dst_eq, t1, List.length_append]; rfl
  · rw [List.length_append] at hi
    have hi' : i < l.length + 1 := hi
    rw [dst_row (by decide)]
    by_cases c1 : i < l.length
    · rw [dst_ne (by omega), t2 i c1, getD_left l [c] i c1]
    · have e1 : i = l.length := by omega
      rw [e1, t1, dst_eq, getD_last]
  · rw [dst_row h0, dst_row h1]
    exact t3 j h0 h1
  · rw [dst_ne he, dst_row (by decide)]
    exact t4 e he
theorem TX.nil {E D : Nat → Int → Int} (h : ∀ j, j ≠ 0 → j ≠ 19 → D j = E j) (h0 : ∀ e, e ≠ 46 → D 0 e = E 0 e) : TX E (dst D 0 46 0) [] :=
  ⟨dst_eq _ _ _ _, fun _ hi => absurd hi (Nat.not_lt_zero _), fun j a b => (dst_row a).trans (h j a b), fun e he => (dst_ne he).trans (h0 e he)⟩
theorem TX.DEq {E D : Nat → Int → Int} {l : List Int} (T : TX E D l) : DEq E D :=
  ⟨T.2.2.2 2 (by decide), T.2.2.2 3 (by decide), T.2.2.2 4 (by decide), T.2.2.1 3 (by decide) (by decide), T.2.2.1 4 (by decide) (by decide), T.2.2.1 5 (by decide) (by decide)⟩
theorem TX.knd {E D : Nat → Int → Int} {l : List Int} (T : TX E D l) (k : Int) : kndL D k = kndL E k := by
  unfold kndL
  rw [T.2.2.1 1 (by decide) (by decide)]
theorem TX.cast {E D : Nat → Int → Int} {l l' : List Int} (T : TX E D l) (e : l = l') : TX E D l' := e ▸ T
/-- the names' bytes -/
def NMv (D : Nat → Int → Int) : Prop := ∀ e, 0 ≤ e → e < 56 → 0 ≤ D 1 e ∧ D 1 e < 256
def lett (w : Int) : Int := if w = 0 then 104 else if w = 1 then 102 else if w = 2 then 97 else if w = 3 then 113 else if w = 4 then 110 else 100
def wq1 (D : Nat → Int → Int) (s : Int → Int) (p k : Int) (l : List Int) : List Int := sepL l 32 ++ numL (qv s p k 0) ++ [46] ++ kndL D (qv s p k 1) ++ [61] ++ numL (qv s p k 3)
def wqL (D : Nat → Int → Int) (s : Int → Int) (p : Int) : Nat → Int → List Int → List Int
  | 0, _, l => l
  | n + 1, i, l => wqL D s p n (i + 1) (wq1 D s p (plc s p i) l)
def ws1 (D : Nat → Int → Int) (s : Int → Int) (p k : Int) (l : List Int) : List Int := sepL l 62 ++ kndL D (sv s p k 1) ++ [58] ++ numL (sv s p k 3)
def wsL (D : Nat → Int → Int) (s : Int → Int) (p : Int) : Nat → List Int → List Int
  | 0, l => l
  | n + 1, l => wsL D s p n (ws1 D s p n l)
def we1 (s : Int → Int) (i : Int) (l : List Int) : List Int := sepL l 32 ++ numL (rv s (Int.tmod (s 2 - 1 - i) 40) 0) ++ [lett (rv s (Int.tmod (s 2 - 1 - i) 40) 1)]
def weL (s : Int → Int) : Nat → Int → List Int → List Int
  | 0, _, l => l
  | n + 1, i, l => weL s n (i + 1) (we1 s i l)
theorem knd_len (D : Nat → Int → Int) (k : Int) : (kndL D k).length ≤ 7 := ch_len _ _ _
theorem wq1_len {D : Nat → Int → Int} {s : Int → Int} {p k : Int} (l : List Int) : (wq1 D s p k l).length ≤ l.length + 30 := by
  unfold wq1
  simp only [List.length_append, List.length_cons, List.length_nil]
  have h1 := sep_len l 32
  have h2 := num_len (qv s p k 0)
  have h3 := num_len (qv s p k 3)
  have h4 := knd_len D (qv s p k 1)
  omega
theorem ws1_len {D : Nat → Int → Int} {s : Int → Int} {p k : Int} (l : List Int) : (ws1 D s p k l).length ≤ l.length + 19 := by
  unfold ws1
  simp only [List.length_append, List.length_cons, List.length_nil]
  have h1 := sep_len l 62
  have h2 := num_len (sv s p k 3)
  have h4 := knd_len D (sv s p k 1)
  omega
theorem we1_len {s : Int → Int} {i : Int} (l : List Int) : (we1 s i l).length ≤ l.length + 12 := by
  unfold we1
  simp only [List.length_append, List.length_cons, List.length_nil]
  have h1 := sep_len l 32
  have h2 := num_len (rv s (Int.tmod (s 2 - 1 - i) 40) 0)
  omega
