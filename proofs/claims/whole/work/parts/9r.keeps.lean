/-! what the reading leaves -/
theorem tok_0 (D : Nat → Int → Int) {e : Int} (h : e < 21 ∨ 26 < e) : tokD D 0 e = D 0 e := by
  unfold tokD
  rw [if_pos rfl, if_neg (by omega), if_neg (by omega), if_neg (by omega), if_neg (by omega)]
theorem go_0 (D : Nat → Int → Int) {e : Int} (h : e < 21 ∨ 26 < e) : gD D 0 e = D 0 e := by
  unfold gD
  split
  · exact tok_0 D h
  · rfl
theorem tE_0 (D : Nat → Int → Int) (lo hi : Int) {e : Int} (h : e < 21 ∨ 26 < e) : tkE D lo hi 0 e = D 0 e := by
  unfold tkE
  split
  · split
    · rfl
    · exact fl_0 D _ (by omega) (by omega)
  · exact fl_0 D _ (by omega) (by omega)
theorem tE_row (D : Nat → Int → Int) (lo hi : Int) {j : Nat} (h : j ≠ 0) : tkE D lo hi j = D j := by
  unfold tkE
  split
  · split
    · rfl
    · exact fl_row D _ h
  · exact fl_row D _ h
theorem fi_0 (D : Nat → Int → Int) (z w : Int) {e : Int} (h : e < 21 ∨ 26 < e) : fiD D z w 0 e = D 0 e := by
  unfold fiD
  split
  · rfl
  · exact fl_0 D _ (by omega) (by omega)
theorem fi_row (D : Nat → Int → Int) (z w : Int) {j : Nat} (h : j ≠ 0) : fiD D z w j = D j := by
  unfold fiD
  split
  · rfl
  · exact fl_row D _ h
theorem nn_0 (j : Nat) (many : Int) (D : Nat → Int → Int) {e : Int} (h : e < 21 ∨ 26 < e) : nnD j many D 0 e = D 0 e := by
  unfold nnD
  split
  · rw [fl_0 _ _ (by omega) (by omega), n1_0 D (by omega) (by omega)]
  · exact n1_0 D (by omega) (by omega)
theorem nn_row (j : Nat) (many : Int) (D : Nat → Int → Int) {i : Nat} (h : i ≠ 0) : nnD j many D i = D i := by
  unfold nnD
  split
  · rw [fl_row _ _ h, n1_row D h]
  · exact n1_row D h
theorem nwl_row {j : Nat} {k : Int} {i : Nat} (h : i ≠ j) : ∀ (n : Nat) (q : Int) (D : Nat → Int → Int), nwl j k n q D i = D i
  | 0, _, _ => rfl
  | n + 1, q, D => by
    show nwl j k n (q + 1) (dst D j (7 * k + q) (nmc D (D 0 22) (D 0 21) q)) i = D i
    rw [nwl_row h n, dst_row h]
theorem PR.nwl {j : Nat} {k : Int} (h0 : j ≠ 0) (h1 : j ≠ 10) : ∀ (n : Nat) (q : Int) (D : Nat → Int → Int), PR D → PR (Jvm.Pilot.CFadingSignalsLaw_law_r4563_1f4246.nwl j k n q D)
  | 0, _, _, P => P
  | n + 1, q, D, P => PR.nwl h0 h1 n (q + 1) _ (P.row _ _ h0 h1)
theorem nmc_rng {D : Nat → Int → Int} (P : PR D) {i : Int} (hi : 0 ≤ i) : 0 ≤ nmc D (D 0 22) (D 0 21) i ∧ nmc D (D 0 22) (D 0 21) i ≤ 255 := by
  have p1 := P.1
  have p2 := P.2.1
  unfold nmc
  split
  · exact P.B _ (by omega) (by omega)
  · omega
theorem NB.nwl {j : Nat} {k : Int} (h0 : j ≠ 0) (h1 : j ≠ 10) : ∀ (n : Nat) (q : Int) (D : Nat → Int → Int), 0 ≤ q → PR D → NB (D j) → NB (Jvm.Pilot.CFadingSignalsLaw_law_r4563_1f4246.nwl j k n q D j)
  | 0, _, _, _, _, N => N
  | n + 1, q, D, hq, P, N => NB.nwl h0 h1 n (q + 1) _ (by omega) (P.row _ _ h0 h1) (fun e a b => by
      have r := nmc_rng P hq
      by_cases c : e = 7 * k + q
      · rw [c, dst_eq]; exact r
      · rw [dst_ne c]; exact N e a b)
theorem PR.nw {D : Nat → Int → Int} (P : PR D) (j : Nat) (many k : Int) (h0 : j ≠ 0) (h1 : j ≠ 10) : PR (nwD j many k D) := by
  unfold nwD
  split
  · exact (PR.nwl h0 h1 7 0 _ (P.nn j many)).go
  · exact (P.nn j many).go
theorem nw_0 (j : Nat) (many k : Int) (D : Nat → Int → Int) (h0 : j ≠ 0) {e : Int} (h : e < 21 ∨ 26 < e) : nwD j many k D 0 e = D 0 e := by
  unfold nwD
  rw [go_0 _ h]
  split
  · rw [nwl_row (Ne.symm h0), nn_0 _ _ _ h]
  · exact nn_0 _ _ _ h
theorem nw_row (j : Nat) (many k : Int) (D : Nat → Int → Int) {i : Nat} (h : i ≠ 0) (hj : i ≠ j) : nwD j many k D i = D i := by
  unfold nwD
  rw [go_row _ h]
  split
  · rw [nwl_row hj, nn_row _ _ _ h]
  · exact nn_row _ _ _ h
theorem NB.nw {D : Nat → Int → Int} (P : PR D) (j : Nat) (many k : Int) (h0 : j ≠ 0) (h1 : j ≠ 10) (N : NB (D j)) : NB (nwD j many k D j) := by
  have r := nn_row j many D h0
  unfold nwD
  rw [go_row _ h0]
  split
  · exact NB.nwl h0 h1 7 0 _ (by decide) (P.nn j many) (by rw [r]; exact N)
  · rw [r]; exact N
