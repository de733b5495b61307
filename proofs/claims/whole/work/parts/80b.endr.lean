/-! an end, against the model's row; the plan -/
theorem S_X0_endSignal_qR {d b : Nat} {h0 h : PH} {E : Nat → Int → Int} {Q : Int → PH → Prop} {X : Nat → PH → Prop} {C K P c N : Int} {s : Int → Int} {p k t : Int} (M : Hx b h0 h E) (R : HR E C K s) (I : HI K P c N s) (hN : N ≤ 2000000000) (hp : 0 ≤ p ∧ p < 6) (hk : 0 ≤ k ∧ k < s (115 + p)) (ht : 1 ≤ t ∧ t < 6)
    (H : ∀ (x : Int) h' E', x = 0 → Hx b h0 h' E' → HR E' C K (e_eiq s p k t) → Q x h') : RUN GQ (d + 2) m_X0_endSignal [pA b, pA (b + 6), pI p, pI k, pI t] h Q X := by
  have q := I.qn hp
  have q2 := I.hq.1
  have e2 := I.e2
  have e1 := I.e1
  have qe := (I.qe hp hk).1
  refine S_X0_endSignal_q M R.r6 hp (by rw [R.qn hp]; exact hk) (by rw [R.qn hp]; omega) (by omega) (by rw [R.fl.1]; omega) (by rw [R.qv hp hk ⟨by omega, by omega⟩]; exact ⟨by omega, by omega⟩) (by rw [R.fl.2.2.2.2.1]; exact I.ho.2.2.2.1) (fun x h' e M' => H x h' _ e M' (cend_q R I hp hk ht))
def PRr (EP D : Nat → Int → Int) : Prop := (EP 1 2 = D 0 3 ∧ EP 4 2 = D 0 4) ∧ (∀ h, 0 ≤ h → h < 48 → EP 7 h = D 3 h ∧ EP 8 h = D 4 h) ∧ ∀ h i w, 0 ≤ h → h < 48 → 0 ≤ i → i < D 4 h → 0 ≤ w → w < 4 → EP 9 ((h * 4 + i) * 4 + w) = D 5 (4 * (4 * h + i) + w)
theorem ups_self (s : Int → Int) (e : Int) : ups s e (s e) = s := by
  funext i
  unfold ups
  split
  · rename_i h; rw [h]
  · rfl
theorem rec_step {E : Nat → Int → Int} {C K : Int} {s : Int → Int} {k : Int} (R : HR E C K s) (hk : 0 ≤ k ∧ k < 48) (ht : 0 ≤ s (37 + k)) : (0 < E 3 k → HR (dst E 3 k (E 3 k - 1)) C K (ups s (37 + k) (if 0 ≤ s (37 + k) - 1 then s (37 + k) - 1 else 0))) ∧ (E 3 k ≤ 0 → HR E C K (ups s (37 + k) (if 0 ≤ s (37 + k) - 1 then s (37 + k) - 1 else 0))) := by
  have r3 : E 3 k = s (37 + k) := R.2.1.2.2.1 k hk.1 hk.2
  refine ⟨fun h => ?_, fun h => ?_⟩
  · rw [if_pos (by omega), ← r3]
    exact hr_tir R hk
  · refine hr_congr R ?_
    rw [if_neg (by omega), show (0 : Int) = s (37 + k) by omega, ups_self]
