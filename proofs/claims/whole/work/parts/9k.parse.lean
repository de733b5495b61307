/-! the model's reading, as functions of its rows -/
def bt (D : Nat → Int → Int) (k : Int) : Int := if k < D 0 20 then D 10 k else -1
abbrev isL (c : Int) : Prop := 97 ≤ c ∧ c ≤ 122
abbrev isD (c : Int) : Prop := 48 ≤ c ∧ c ≤ 57
/-- the bytes -/
def BY (D : Nat → Int → Int) : Prop := ∀ e, 0 ≤ e → e < 700 → 0 ≤ D 10 e ∧ D 10 e ≤ 255
def skl (D : Nat → Int → Int) : Nat → Int → Int
  | 0, p => p
  | n + 1, p => if bt D p = 32 then skl D n (p + 1) else p
def ltl (D : Nat → Int → Int) : Nat → Int → Int
  | 0, p => p
  | n + 1, p => if isL (bt D p) then ltl D n (p + 1) else p
def dgn (D : Nat → Int → Int) : Nat → Int → Int
  | 0, p => p
  | n + 1, p => if isD (bt D p) then dgn D n (p + 1) else p
def dgv (D : Nat → Int → Int) (fr : Int) : Nat → Int → Int → Int
  | 0, _, a => a
  | n + 1, p, a => if isD (bt D p) then dgv D fr n (p + 1) (if p - fr < 3 then 10 * a + bt D p - 48 else 0) else a
def tkN (D : Nat → Int → Int) (p : Int) : Int := if bt D p = -1 then p else if isL (bt D p) then ltl D (D 0 20 - p).toNat p else if isD (bt D p) then dgn D (D 0 20 - p).toNat p else p + 1
def tkS (D : Nat → Int → Int) (p : Int) : Int := if bt D p = -1 then 0 else if isL (bt D p) then (if 7 < ltl D (D 0 20 - p).toNat p - p then 4 else 1) else if isD (bt D p) then (if 3 < dgn D (D 0 20 - p).toNat p - p then 4 else 2) else if bt D p = 59 then 3 else 4
def tkV (D : Nat → Int → Int) (p v : Int) : Int := if isD (bt D p) then dgv D p (D 0 20 - p).toNat p 0 else v
def tkP (D : Nat → Int → Int) : Int := skl D (D 0 20 - D 0 21).toNat (D 0 21)
def tokD (D : Nat → Int → Int) : Nat → Int → Int := fun j e => if j = 0 then (if e = 21 then tkN D (tkP D) else if e = 22 then tkP D else if e = 23 then tkS D (tkP D) else if e = 24 then tkV D (tkP D) (D 0 24) else D 0 e) else D j e
def flD (D : Nat → Int → Int) (w : Int) : Nat → Int → Int := if D 0 25 = 0 then dst (dst D 0 25 w) 0 26 (D 0 22) else D
def fiD (D : Nat → Int → Int) (z w : Int) : Nat → Int → Int := if z = 0 then D else flD D w
def gD (D : Nat → Int → Int) : Nat → Int → Int := if D 0 25 = 0 then tokD D else D
/-- D is E but for the token -/
def TKR (E D : Nat → Int → Int) : Prop := (∀ j, j ≠ 0 → D j = E j) ∧ ∀ e, e ≠ 21 → e ≠ 22 → e ≠ 23 → e ≠ 24 → D 0 e = E 0 e
theorem TKR.refl (E : Nat → Int → Int) : TKR E E := ⟨fun _ _ => rfl, fun _ _ _ _ _ => rfl⟩
theorem TKR.L {E D : Nat → Int → Int} (T : TKR E D) : D 0 20 = E 0 20 := T.2 20 (by decide) (by decide) (by decide) (by decide)
theorem TKR.bt {E D : Nat → Int → Int} (T : TKR E D) (k : Int) : bt D k = bt E k := by
  unfold Jvm.Pilot.CFadingSignalsLaw_law_r4563_1f4246.bt
  rw [T.L, T.1 10 (by decide)]
theorem TKR.put {E D F : Nat → Int → Int} {f v : Int} (T : TKR E D) (h : F = dst D 0 f v) (hf : f = 21 ∨ f = 22 ∨ f = 23 ∨ f = 24) : TKR E F := by
  subst h
  refine ⟨fun j hj => (dst_row hj).trans (T.1 j hj), fun e h1 h2 h3 h4 => (dst_ne ?_).trans (T.2 e h1 h2 h3 h4)⟩
  rcases hf with e' | e' | e' | e' <;> rw [e'] <;> assumption
theorem dF {D F : Nat → Int → Int} {f v : Int} (h : F = dst D 0 f v) : F 0 f = v ∧ ∀ e, e ≠ f → F 0 e = D 0 e := by
  subst h
  exact ⟨dst_eq _ _ _ _, fun e he => dst_ne he⟩
theorem TKR.tok {E D : Nat → Int → Int} (T : TKR E D) (h1 : D 0 21 = tkN E (tkP E)) (h2 : D 0 22 = tkP E) (h3 : D 0 23 = tkS E (tkP E)) (h4 : D 0 24 = tkV E (tkP E) (E 0 24)) : D = tokD E := by
  funext j e
  unfold tokD
  by_cases c : j = 0
  · rw [if_pos c, c]
    by_cases c1 : e = 21
    · rw [if_pos c1, c1, h1]
    rw [if_neg c1]
    by_cases c2 : e = 22
    · rw [if_pos c2, c2, h2]
    rw [if_neg c2]
    by_cases c3 : e = 23
    · rw [if_pos c3, c3, h3]
    rw [if_neg c3]
    by_cases c4 : e = 24
    · rw [if_pos c4, c4, h4]
    rw [if_neg c4, T.2 e c1 c2 c3 c4]
  · rw [if_neg c, T.1 j c]
theorem bt_rng {D : Nat → Int → Int} (B : BY D) (hL : D 0 20 ≤ 700) {k : Int} (hk : 0 ≤ k) : bt D k = -1 ∧ D 0 20 ≤ k ∨ (0 ≤ bt D k ∧ bt D k ≤ 255) ∧ k < D 0 20 := by
  unfold bt
  split
  · have := B k hk (by omega)
    omega
  · omega
theorem Mt.nm {b : Nat} {h0 h : PH} {D : Nat → Int → Int} {s : Int → Int} {t f v : Int} (M : Mt b h0 h (dst D 0 f v) s t) : ∃ F, F = dst D 0 f v ∧ Mt b h0 h F s t := ⟨_, rfl, M⟩
