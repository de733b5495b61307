/-! rows that are filled with zeros; names that are added -/
def zrw (j : Nat) : Nat → Int → (Nat → Int → Int) → Nat → Int → Int
  | 0, _, E => E
  | n + 1, k, E => zrw j n (k + 1) (dst E j k 0)
theorem zrw_eq {j : Nat} : ∀ (n : Nat) (k : Int) (E : Nat → Int → Int), zrw j n k E = srow E j (fun e => if k ≤ e ∧ e < k + n then 0 else E j e)
  | 0, k, E => by
    show E = _
    funext j' e
    unfold srow
    by_cases q : j' = j
    · rw [if_pos q, q]
      exact (if_neg (by omega)).symm
    · rw [if_neg q]
  | n + 1, k, E => by
    show zrw j n (k + 1) (dst E j k 0) = _
    rw [zrw_eq n (k + 1), srow_dst]
    congr 1
    funext e
    by_cases q : e = k
    · rw [q, if_neg (by omega), if_pos (by omega), dst_eq]
    · rw [dst_ne q]
      by_cases q2 : k ≤ e ∧ e < k + (n + 1 : Nat)
      · rw [if_pos (by omega), if_pos q2]
      · rw [if_neg (by omega), if_neg q2]
theorem zrw_row {j i : Nat} {n : Nat} {k : Int} {E : Nat → Int → Int} (h : i ≠ j) : zrw j n k E i = E i := by
  rw [zrw_eq]
  exact if_neg h
theorem zrw_at {j : Nat} {n : Nat} {k e : Int} {E : Nat → Int → Int} (h : k ≤ e ∧ e < k + n) : zrw j n k E j e = 0 := by
  rw [zrw_eq]
  unfold srow
  rw [if_pos rfl, if_pos h]
/-- an emptied hall -/
def emH (E : Nat → Int → Int) : Nat → Int → Int := dst (dst (dst (dst (dst (dst (zrw 10 6 0 (zrw 7 6 0 (zrw 12 6 0 (zrw 5 24 0 (zrw 4 6 0 (zrw 3 48 0 (zrw 2 24 0 (zrw 1 4 0 E)))))))) 0 9 0) 0 10 0) 0 11 0) 0 12 0) 0 13 (-1)) 0 14 (-1)
/-- letters that are written behind the names -/
def awl (j : Nat) (D : Nat → Int → Int) (K fr : Int) : Nat → Int → (Nat → Int → Int) → Nat → Int → Int
  | 0, _, E => E
  | n + 1, i, E => awl j D K fr n (i + 1) (dst E j (K * 7 + i) (sgb (D 10 (fr + i))))
theorem awl_row {j k : Nat} {D : Nat → Int → Int} {K fr : Int} (h : k ≠ j) : ∀ (n : Nat) (i : Int) (E : Nat → Int → Int), awl j D K fr n i E k = E k
  | 0, _, _ => rfl
  | n + 1, i, E => by
    show awl j D K fr n (i + 1) (dst E j (K * 7 + i) (sgb (D 10 (fr + i)))) k = E k
    rw [awl_row h n, dst_row h]
theorem awl_at {j : Nat} {D : Nat → Int → Int} {K fr : Int} : ∀ (n : Nat) (i : Int) (E : Nat → Int → Int) (e : Int), awl j D K fr n i E j e = if K * 7 + i ≤ e ∧ e < K * 7 + i + n then sgb (D 10 (fr + (e - K * 7))) else E j e
  | 0, i, E, e => by rw [if_neg (by omega)]; rfl
  | n + 1, i, E, e => by
    show awl j D K fr n (i + 1) (dst E j (K * 7 + i) (sgb (D 10 (fr + i)))) j e = _
    rw [awl_at n (i + 1)]
    by_cases q : e = K * 7 + i
    · rw [q, if_neg (by omega), if_pos (by omega), dst_eq, show K * 7 + i - K * 7 = i by omega]
    · rw [dst_ne q]
      by_cases q2 : K * 7 + i ≤ e ∧ e < K * 7 + i + (n + 1 : Nat)
      · rw [if_pos (by omega), if_pos q2]
      · rw [if_neg (by omega), if_neg q2]
theorem sgb_rng {x : Int} (h : 0 ≤ x ∧ x ≤ 255) : -128 ≤ sgb x ∧ sgb x ≤ 127 := by
  unfold sgb
  split <;> omega
theorem sgb_lt {x : Int} (h : x < 128) : sgb x = x := if_pos h
