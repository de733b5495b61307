/-! the law's walk in the plain machine -/
theorem law_wp (L : Nat) (xs : Nat → Int32) (hL : L ≤ 3072) : WP k_L_law [] (RUN GQ 13) 601024 7293034 14 (fun x _ => x = 1) (fun _ _ => False) 0 (ent 9 [pA 1]) [] (sH L xs) 0 0 := by
  sorry
