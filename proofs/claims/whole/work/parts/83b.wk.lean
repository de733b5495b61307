/-! the handler on top, by its place -/
theorem e_wk_some {D : Nat → Int → Int} {s : Int → Int} {p tp : Int} (h : s (511 + p) ≠ 0) (ht : tp = s (511 + p) - 1) : e_wk D s p = if 0 < sv s p tp 3 - 1 then ups s (517 + 6 * (4 * p + tp) + 3) (sv s p tp 3 - 1) else e_acl D p (8 * p + sv s p tp 1) (sv s p tp 4) (D 4 (8 * p + sv s p tp 1)).toNat 0 (e_wk0 (ups s (517 + 6 * (4 * p + tp) + 3) (sv s p tp 3 - 1)) p (517 + 6 * (4 * p + tp))) := by
  subst ht
  unfold e_wk
  rw [if_neg h]
  simp only [ups_eq]
  rw [ups_ne (show 517 + 6 * (4 * p + (s (511 + p) - 1)) + 1 ≠ 517 + 6 * (4 * p + (s (511 + p) - 1)) + 3 by omega), ups_ne (show 517 + 6 * (4 * p + (s (511 + p) - 1)) + 4 ≠ 517 + 6 * (4 * p + (s (511 + p) - 1)) + 3 by omega)]
  rfl
