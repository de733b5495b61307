/-! what is dropped, seen from the class -/
theorem drp_to {K P c N g : Int} {D : Nat → Int → Int} {s : Int → Int} (I : HI K P c N s) (hP : P = D 0 4) (h4 : 0 ≤ D 0 4 ∧ D 0 4 ≤ 6) : drpv D s g = (if ppl s g 115 qv 6 0 ≠ -1 then 0 else if ppl s g 511 sv 6 0 ≠ -1 then 1 else 2) ∧ drps D s g = (if ppl s g 115 qv 6 0 ≠ -1 then e_eiq s (ppl s g 115 qv 6 0) (fnq s g (ppl s g 115 qv 6 0)) 5 else if ppl s g 511 sv 6 0 ≠ -1 then e_drn s (ppl s g 511 sv 6 0) (fns s g (ppl s g 511 sv 6 0)) else s) := by
  subst hP
  have pe := pnl_eq (g := g) I h4
  have pr := ppl_spec (s := s) (g := g) (a := 115) (f := qv) 6 0 (by omega)
  have ps := ppl_spec (s := s) (g := g) (a := 511) (f := sv) 6 0 (by omega)
  unfold drpv drps
  rw [pe]
  generalize ppl s g 115 qv 6 0 = a at pr ⊢
  generalize ppl s g 511 sv 6 0 = b at ps ⊢
  by_cases c1 : a ≠ -1
  · rw [if_pos c1, if_pos c1, if_pos c1, if_neg c1, if_neg c1, if_pos (by omega), if_pos (by omega)]
    exact ⟨rfl, rfl⟩
  · rw [if_neg c1, if_neg c1, if_neg c1]
    by_cases c2 : b ≠ -1
    · rw [if_pos c2, if_pos c2, if_pos c2, if_neg (by omega), if_neg (by omega), if_neg (by omega), if_neg (by omega), show 10 + b - 10 = b by omega]
      exact ⟨rfl, rfl⟩
    · rw [if_neg c2, if_neg c2, if_neg c2, if_pos rfl, if_pos rfl]
      exact ⟨rfl, rfl⟩
theorem kl_to (w : Int) : klo w = knl w ∧ khi w = knh w ∧ slo w = stl w ∧ (w < 3 → shi w = sth w) := by
  unfold klo knl khi knh slo stl shi sth
  refine ⟨?_, ?_, ?_, fun h => ?_⟩ <;> (repeat' split) <;> omega
theorem kl_rng (w : Int) : (0 ≤ knl w ∧ knl w ≤ 1) ∧ (0 ≤ knh w ∧ knh w ≤ 200) ∧ (0 ≤ stl w ∧ stl w ≤ 1) ∧ (0 ≤ sth w ∧ sth w ≤ 50) := by
  unfold knl knh stl sth
  refine ⟨?_, ?_, ?_, ?_⟩ <;> (repeat' split) <;> omega
