/-! a handler begins, on both sides -/
def c_cp (p i tp : Int) : Nat → Int → (Nat → Int → Int) → Nat → Int → Int
  | 0, _, E => E
  | n + 1, j, E => c_cp p i tp n (j + 1) (dst E 11 ((p * 4 + tp) * 7 + j) (E 8 ((p * 13 + i) * 7 + j)))
def c_psh0 (E : Nat → Int → Int) (p i u t : Int) : Nat → Int → Int :=
  dst (dst (c_cp p i (E 10 p) 5 0 (dst E 10 p (E 10 p + 1))) 11 ((p * 4 + E 10 p) * 7 + 5) u) 11 ((p * 4 + E 10 p) * 7 + 6) t
def c_psh (E : Nat → Int → Int) (p i u t : Int) : Nat → Int → Int := c_rm 6 13 (c_psh0 E p i u t) p i
section PUSH
variable {E : Nat → Int → Int} {C : Int} {s : Int → Int} {K P c N : Int}
theorem psh0_eq {p i u t : Int} : c_psh0 E p i u t = dst (dst (dst (dst (dst (dst (dst (dst E 10 p (E 10 p + 1)) 11 ((p * 4 + E 10 p) * 7 + 0) (E 8 ((p * 13 + i) * 7 + 0))) 11 ((p * 4 + E 10 p) * 7 + 1) (E 8 ((p * 13 + i) * 7 + 1))) 11 ((p * 4 + E 10 p) * 7 + 2) (E 8 ((p * 13 + i) * 7 + 2))) 11 ((p * 4 + E 10 p) * 7 + 3) (E 8 ((p * 13 + i) * 7 + 3))) 11 ((p * 4 + E 10 p) * 7 + 4) (E 8 ((p * 13 + i) * 7 + 4))) 11 ((p * 4 + E 10 p) * 7 + 5) u) 11 ((p * 4 + E 10 p) * 7 + 6) t := rfl
theorem psh0_row {p i u t : Int} {j : Nat} (h10 : j ≠ 10) (h11 : j ≠ 11) : c_psh0 E p i u t j = E j := by
  rw [psh0_eq, dst_row h11, dst_row h11, dst_row h11, dst_row h11, dst_row h11, dst_row h11, dst_row h11, dst_row h10]
theorem psh0_10 {p i u t e : Int} : c_psh0 E p i u t 10 e = if e = p then E 10 p + 1 else E 10 e := by
  rw [psh0_eq, dst_row (by decide), dst_row (by decide), dst_row (by decide), dst_row (by decide), dst_row (by decide), dst_row (by decide), dst_row (by decide)]
  by_cases q : e = p
  · rw [if_pos q, q, dst_eq]
  · rw [if_neg q, dst_ne q]
theorem psh0_11n {p i u t e : Int} (h : ¬ ((p * 4 + E 10 p) * 7 ≤ e ∧ e < (p * 4 + E 10 p) * 7 + 7)) : c_psh0 E p i u t 11 e = E 11 e := by
  rw [psh0_eq, dst_ne (by omega), dst_ne (by omega), dst_ne (by omega), dst_ne (by omega), dst_ne (by omega), dst_ne (by omega), dst_ne (by omega)]
  rfl
theorem psh0_11 {p i u t w : Int} (hw : 0 ≤ w ∧ w < 7) : c_psh0 E p i u t 11 ((p * 4 + E 10 p) * 7 + w) = if w = 5 then u else if w = 6 then t else E 8 ((p * 13 + i) * 7 + w) := by
  have hw' : w = 0 ∨ w = 1 ∨ w = 2 ∨ w = 3 ∨ w = 4 ∨ w = 5 ∨ w = 6 := by omega
  have e : c_psh0 E p i u t = dst (dst (dst (dst (dst (dst (dst (dst E 10 p (E 10 p + 1)) 11 ((p * 4 + E 10 p) * 7 + 0) (E 8 ((p * 13 + i) * 7 + 0))) 11 ((p * 4 + E 10 p) * 7 + 1) (E 8 ((p * 13 + i) * 7 + 1))) 11 ((p * 4 + E 10 p) * 7 + 2) (E 8 ((p * 13 + i) * 7 + 2))) 11 ((p * 4 + E 10 p) * 7 + 3) (E 8 ((p * 13 + i) * 7 + 3))) 11 ((p * 4 + E 10 p) * 7 + 4) (E 8 ((p * 13 + i) * 7 + 4))) 11 ((p * 4 + E 10 p) * 7 + 5) u) 11 ((p * 4 + E 10 p) * 7 + 6) t := rfl
  rw [e]
  rcases hw' with rfl | rfl | rfl | rfl | rfl | rfl | rfl
  · rw [dst_ne (by omega), dst_ne (by omega), dst_ne (by omega), dst_ne (by omega), dst_ne (by omega), dst_ne (by omega), dst_eq]; rfl
  · rw [dst_ne (by omega), dst_ne (by omega), dst_ne (by omega), dst_ne (by omega), dst_ne (by omega), dst_eq]; rfl
  · rw [dst_ne (by omega), dst_ne (by omega), dst_ne (by omega), dst_ne (by omega), dst_eq]; rfl
  · rw [dst_ne (by omega), dst_ne (by omega), dst_ne (by omega), dst_eq]; rfl
  · rw [dst_ne (by omega), dst_ne (by omega), dst_eq]; rfl
  · rw [dst_ne (by omega), dst_eq]; rfl
  · rw [dst_eq]; rfl
theorem psh_HR {p k u t : Int} (R : HR E C K s) (I : HI K P c N s) (hp : 0 ≤ p ∧ p < 6) (hk : 0 ≤ k ∧ k < s (115 + p)) (hs : s (511 + p) ≤ 3) : HR (c_psh E p k u t) C K (e_stk s p k u t) := by
  have hq := I.qn hp
  have hc13 := I.hq.1
  have hs0 := I.sn hp
  have hss : 0 ≤ s (511 + p) ∧ s (511 + p) ≤ 3 := ⟨hs0.1, hs⟩
  have stn : ∀ e, ¬ (517 + 6 * (4 * p + s (511 + p)) ≤ e ∧ e < 517 + 6 * (4 * p + s (511 + p)) + 6) → e ≠ 511 + p → e_stk s p k u t e = e_lv s p k e := fun e a b => stk_at hp hk (by omega) hss a b
  have lne : ∀ e, e ≠ 115 + p → ¬ (121 + 65 * p ≤ e ∧ e < 121 + 65 * p + 65) → e_lv s p k e = s e := fun e a b => elv_ne hp hk (by omega) a b
  have sne : ∀ e, e ≠ 115 + p → ¬ (121 ≤ e ∧ e < 511) → e ≠ 511 + p → ¬ (517 ≤ e ∧ e < 661) → e_stk s p k u t e = s e := fun e a b d f => by rw [stn e (by omega) d, lne e a (by omega)]
  have e10 := R.sn hp
  have row : ∀ j, j ≠ 7 → j ≠ 8 → j ≠ 10 → j ≠ 11 → c_psh E p k u t j = E j := fun j a b d f => by
    unfold c_psh
    rw [rm_row a b, psh0_row d f]
  have X1 : HRx (c_psh E p k u t) K (e_stk s p k u t) := R.x.of (fun j hj => row j (by omega) (by omega) (by omega) (by omega)) (fun i hi' => sne i (by omega) (by omega) (by omega) (by omega))
  refine HR.mk' ?_ X1 (fun e h1 h2 => ?_) (fun q i w h1 h2 h3 h4 h5 h6 => ?_) (fun e h1 h2 => ?_) (fun q i h1 h2 h3 h4 => ?_) ?_
  · unfold HRo
    rw [row 6 (by decide) (by decide) (by decide) (by decide), row 9 (by decide) (by decide) (by decide) (by decide), row 1 (by decide) (by decide) (by decide) (by decide)]
    exact R.1
  · unfold c_psh
    rw [show (7 : Nat) = 6 + 1 from rfl, rm_sz]
    show (if e = p then c_psh0 E p k u t 7 p - 1 else c_psh0 E p k u t 7 e) = _
    rw [psh0_row (by decide) (by decide), stn _ (by omega) (by omega), R.qn hp, R.qn ⟨h1, h2⟩]
    by_cases h : e = p
    · rw [if_pos h, h, elv_sz hp hk]
    · rw [if_neg h, lne _ (by omega) (by omega)]
  · rw [stn _ (by omega) (by omega)] at h4
    have hq2 := I.qn ⟨h1, h2⟩
    have h4' : q = p → i < s (115 + p) - 1 := fun e => by rw [e, elv_sz hp hk] at h4; exact h4
    have h4n : q ≠ p → i < s (115 + q) := fun e => by rw [lne _ (by omega) (by omega)] at h4; exact h4
    have i13 : i < 13 := by
      by_cases h : q = p
      · have := h4' h; subst h; omega
      · have := h4n h; omega
    unfold c_psh
    rw [show (8 : Nat) = 6 + 2 from rfl, rm_cell (by show 0 ≤ c_psh0 E p k u t 7 p - k - 1; rw [psh0_row (by decide) (by decide), R.qn hp]; omega)]
    show (if (p * 13 + k) * 7 ≤ (q * 13 + i) * 7 + w ∧ (q * 13 + i) * 7 + w < (p * 13 + k) * 7 + 7 * (c_psh0 E p k u t 7 p - k - 1) then c_psh0 E p k u t 8 ((q * 13 + i) * 7 + w + 7) else c_psh0 E p k u t 8 ((q * 13 + i) * 7 + w)) = _
    rw [psh0_row (by decide) (by decide), psh0_row (by decide) (by decide), R.qn hp, qv_of (s := e_lv s p k) (fun i _ _ => stn i (by omega) (by omega)) ⟨h1, h2⟩ ⟨h3, i13⟩ ⟨h5, h6⟩, elv_qv hp hk (by omega) ⟨h3, i13⟩ ⟨h1, h2⟩ ⟨h5, h6⟩ (fun e => h4' e.symm)]
    by_cases h : q = p ∧ k ≤ i
    · have := h4' h.1
      obtain ⟨hqp, hki⟩ := h
      subst hqp
      rw [if_pos (by omega), if_pos ⟨rfl, hki⟩, ← R.qv hp (i := i + 1) ⟨by omega, by omega⟩ ⟨h5, h6⟩]
      congr 1
      omega
    · rw [if_neg h]
      by_cases h7 : q = p
      · have := h4' h7
        subst h7
        rw [if_neg (by omega), R.qv hp ⟨h3, by omega⟩ ⟨h5, h6⟩]
      · rw [if_neg (by omega), R.qv ⟨h1, h2⟩ ⟨h3, h4n h7⟩ ⟨h5, h6⟩]
  · unfold c_psh
    rw [rm_row (by decide) (by decide), psh0_10]
    by_cases h : e = p
    · rw [if_pos h, h, stk_sz hp hk (by omega) hss, e10]
    · rw [if_neg h, sne _ (by omega) (by omega) (by omega) (by omega)]
      exact R.sn ⟨h1, h2⟩
  · have g : ∀ x, c_psh E p k u t 11 x = c_psh0 E p k u t 11 x := fun x => by
      unfold c_psh
      rw [rm_row (by decide) (by decide)]
    rw [g, g, g, g, g, g]
    by_cases h : q = p ∧ i = s (511 + p)
    · obtain ⟨hq', hi'⟩ := h
      subst hq'
      have n := fun w (hw : 0 ≤ w ∧ w < 6) => stk_new (s := s) (u := u) (t := t) hp hk (by omega) hss hw
      have m := fun w (hw : 0 ≤ w ∧ w < 7) => psh0_11 (E := E) (p := q) (i := k) (u := u) (t := t) hw
      have v := fun w (hw : 0 ≤ w ∧ w < 5) => R.qv hp hk hw
      rw [hi', ← e10, m 0 (by omega), m 1 (by omega), m 3 (by omega), m 4 (by omega), m 5 (by omega), m 6 (by omega), e10, n 0 (by omega), n 1 (by omega), n 2 (by omega), n 3 (by omega), n 4 (by omega), n 5 (by omega)]
      exact ⟨v 0 (by omega), v 1 (by omega), v 3 (by omega), v 4 (by omega), rfl, rfl⟩
    · have h9 : i < s (511 + q) := by
        by_cases hh : q = p
        · rw [hh, stk_sz hp hk (by omega) hss] at h4
          subst hh
          omega
        · rw [sne _ (by omega) (by omega) (by omega) (by omega)] at h4
          exact h4
      have g4 := I.sn ⟨h1, h2⟩
      have m : ∀ w, 0 ≤ w → w < 7 → c_psh0 E p k u t 11 ((q * 4 + i) * 7 + w) = E 11 ((q * 4 + i) * 7 + w) := fun w a b => psh0_11n (by rw [e10]; omega)
      have n : ∀ w, 0 ≤ w → w < 6 → sv (e_stk s p k u t) q i w = sv s q i w := fun w a b => stk_sv hp hk (by omega) hss ⟨h1, h2⟩ ⟨h3, by omega⟩ ⟨a, b⟩ h
      rw [m 0 (by omega) (by omega), m 1 (by omega) (by omega), m 3 (by omega) (by omega), m 4 (by omega) (by omega), m 5 (by omega) (by omega), m 6 (by omega) (by omega), n 0 (by omega) (by omega), n 1 (by omega) (by omega), n 2 (by omega) (by omega), n 3 (by omega) (by omega), n 4 (by omega) (by omega), n 5 (by omega) (by omega)]
      exact R.sv ⟨h1, h2⟩ ⟨h3, h9⟩
  · rw [row 0 (by decide) (by decide) (by decide) (by decide), sne 3 (by omega) (by omega) (by omega) (by omega)]
    exact R.fl.2.2.2.1
end PUSH
