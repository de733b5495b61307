/-! searches; a row that is taken out -/
/-- the first place from i on (n of them) where f is g; none -/
def ffi (f : Int → Int) (g : Int) : Nat → Int → Int
  | 0, _ => -1
  | n + 1, i => if f i = g then i else ffi f g n (i + 1)
theorem ffi_spec {f : Int → Int} {g : Int} : ∀ (n : Nat) (i : Int), (ffi f g n i = -1 ∧ ∀ j, i ≤ j → j < i + n → f j ≠ g) ∨ (i ≤ ffi f g n i ∧ ffi f g n i < i + n ∧ f (ffi f g n i) = g ∧ ∀ j, i ≤ j → j < ffi f g n i → f j ≠ g)
  | 0, i => Or.inl ⟨rfl, fun j _ _ => by omega⟩
  | n + 1, i => by
    have e : ffi f g (n + 1) i = if f i = g then i else ffi f g n (i + 1) := rfl
    rw [e]
    by_cases q : f i = g
    · rw [if_pos q]
      exact Or.inr ⟨by omega, by omega, q, fun j _ _ => by omega⟩
    · rw [if_neg q]
      rcases ffi_spec (f := f) (g := g) n (i + 1) with ⟨h1, h2⟩ | ⟨h1, h2, h3, h4⟩
      · refine Or.inl ⟨h1, fun j a b => ?_⟩
        by_cases u : j = i
        · rw [u]; exact q
        · exact h2 j (by omega) (by omega)
      · refine Or.inr ⟨by omega, by omega, h3, fun j a b => ?_⟩
        by_cases u : j = i
        · rw [u]; exact q
        · exact h4 j (by omega) (by omega)
theorem ffi_congr {f f' : Int → Int} {g : Int} : ∀ (n : Nat) (i : Int), (∀ j, i ≤ j → j < i + n → f j = f' j) → ffi f g n i = ffi f' g n i
  | 0, _, _ => rfl
  | n + 1, i, h => by
    show (if f i = g then i else ffi f g n (i + 1)) = (if f' i = g then i else ffi f' g n (i + 1))
    rw [h i (by omega) (by omega), ffi_congr n (i + 1) (fun j a b => h j (by omega) (by omega))]
theorem rm_step {E : Nat → Int → Int} {j k : Nat} (hjk : k ≠ j) {n : Nat} {a p : Int} : dst (srow E j (sfl 7 (n + 1) (a - 7) (E j))) k p (E k p - 1) = dst (srow (dst E j (a - 7) (E j a)) j (sfl 7 n (a + 1 - 7) ((dst E j (a - 7) (E j a)) j))) k p ((dst E j (a - 7) (E j a)) k p - 1) := by
  have e2 : (dst E j (a - 7) (E j a)) j = ups (E j) (a - 7) (E j a) := if_pos rfl
  have e3 : (dst E j (a - 7) (E j a)) k = E k := if_neg hjk
  rw [srow_dst, e2, e3, show a + 1 - 7 = a - 7 + 1 by omega]
  show dst (srow E j (sfl 7 n (a - 7 + 1) (ups (E j) (a - 7) (E j (a - 7 + 7))))) k p (E k p - 1) = _
  rw [show a - 7 + 7 = a by omega]
theorem rm_step_q {E : Nat → Int → Int} {n : Nat} {a p : Int} : dst (srow E 8 (sfl 7 (n + 1) (a - 7) (E 8))) 7 p (E 7 p - 1) = dst (srow (dst E 8 (a - 7) (E 8 a)) 8 (sfl 7 n (a + 1 - 7) ((dst E 8 (a - 7) (E 8 a)) 8))) 7 p ((dst E 8 (a - 7) (E 8 a)) 7 p - 1) := rm_step (by decide)
theorem rm_step_s {E : Nat → Int → Int} {n : Nat} {a p : Int} : dst (srow E 11 (sfl 7 (n + 1) (a - 7) (E 11))) 10 p (E 10 p - 1) = dst (srow (dst E 11 (a - 7) (E 11 a)) 11 (sfl 7 n (a + 1 - 7) ((dst E 11 (a - 7) (E 11 a)) 11))) 10 p ((dst E 11 (a - 7) (E 11 a)) 10 p - 1) := rm_step (by decide)
theorem dst_eq (E : Nat → Int → Int) (j : Nat) (e v : Int) : dst E j e v j e = v := by
  unfold dst
  rw [if_pos rfl, ups_eq]
theorem dst_ne {E : Nat → Int → Int} {j : Nat} {e v i : Int} (h : i ≠ e) : dst E j e v j i = E j i := by
  unfold dst
  rw [if_pos rfl, ups_ne h]
theorem dst_row {E : Nat → Int → Int} {j k : Nat} {e v : Int} (h : k ≠ j) : dst E j e v k = E k := if_neg h
