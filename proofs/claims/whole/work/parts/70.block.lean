/-! blocks of cells: n of them from b on, their kinds, lengths, the references inside; E their ints -/
def BSh (n : Nat) (K L : Nat → Nat) (RF : List (Nat × Nat × Nat)) (b : Nat) (h : PH) : Prop := b ≠ 0 ∧ (∀ j, j < n → hk h (b + j) = K j ∧ hl h (b + j) = L j) ∧ ∀ q ∈ RF, hr h (b + q.1) q.2.1 = b + q.2.2
def Bx (n : Nat) (K L : Nat → Nat) (RF : List (Nat × Nat × Nat)) (b : Nat) (h0 h : PH) (E : Nat → Int → Int) : Prop :=
  BSh n K L RF b h ∧ Sa b n h0 h ∧ ∀ (j : Nat) (e : Int), j < n → 0 ≤ e → hi h (b + j) e.toNat = E j e
section BLK
variable {n : Nat} {K L : Nat → Nat} {RF : List (Nat × Nat × Nat)} {b : Nat} {h0 h : PH} {E E' : Nat → Int → Int}
theorem Bx.b0 (M : Bx n K L RF b h0 h E) : b ≠ 0 := M.1.1
theorem Bx.k (M : Bx n K L RF b h0 h E) (j : Nat) {k : Nat} (hj : j < n) (hk' : K j = k) : hk h (b + j) = k := by rw [← hk']; exact (M.1.2.1 j hj).1
theorem Bx.r (M : Bx n K L RF b h0 h E) (j f t : Nat) (hq : (j, f, t) ∈ RF) : hr h (b + j) f = b + t := M.1.2.2 _ hq
theorem Bx.f (M : Bx n K L RF b h0 h E) (j : Nat) (f : Nat) (hj : j < n) : hi h (b + j) f = E j f := by
  have := M.2.2 j f hj (by omega)
  rwa [Int.toNat_natCast] at this
theorem Bx.st (M : Bx n K L RF b h0 h E) (j : Nat) {e v : Int} (hj : j < n) (he : 0 ≤ e) : Bx n K L RF b h0 (hsi h (b + j) e.toNat v) (dst E j e v) := by
  refine ⟨M.1, M.2.1.hsi ⟨by omega, by omega⟩, fun j' e' hj' he' => ?_⟩
  rw [hi_hsi]
  unfold dst ups
  by_cases q : j' = j
  · subst q
    rw [if_pos rfl]
    by_cases q2 : e' = e
    · subst q2
      rw [if_pos ⟨rfl, rfl⟩, if_pos rfl]
    · rw [if_neg (fun z => q2 (toNat_inj he' he z.2)), if_neg q2]
      exact M.2.2 _ _ hj' he'
  · rw [if_neg q, if_neg (fun z => q (by omega))]
    exact M.2.2 _ _ hj' he'
theorem Bx.ld (M : Bx n K L RF b h0 h E) (j m : Nat) {e : Int} {P : Prop} (hj : j < n) (hk' : K j = 20) (hn : L j = m) (h1 : 0 ≤ e) (h2 : e < m) (H : hi h (b + j) e.toNat = E j e → P) : (hk h (b + j) = 20 ∨ hk h (b + j) = 26) ∧ (0 ≤ e ∧ e < (hl h (b + j) : Int)) ∧ P :=
  ⟨Or.inl (by rw [← hk']; exact (M.1.2.1 j hj).1), ⟨h1, by rw [(M.1.2.1 j hj).2, hn]; exact h2⟩, H (M.2.2 j e hj h1)⟩
theorem Bx.ldb (M : Bx n K L RF b h0 h E) (j m kd : Nat) {e : Int} {P : Prop} (hj : j < n) (hk' : K j = kd) (hn : L j = m) (h1 : 0 ≤ e) (h2 : e < m) (H : hi h (b + j) e.toNat = E j e → P) : hk h (b + j) = kd ∧ (0 ≤ e ∧ e < (hl h (b + j) : Int)) ∧ P :=
  ⟨by rw [← hk']; exact (M.1.2.1 j hj).1, ⟨h1, by rw [(M.1.2.1 j hj).2, hn]; exact h2⟩, H (M.2.2 j e hj h1)⟩
theorem Bx.as (M : Bx n K L RF b h0 h E) (j m : Nat) {e v : Int} {P : PH → Prop} (hj : j < n) (hk' : K j = 20) (hn : L j = m) (h1 : 0 ≤ e) (h2 : e < m) (H : ∀ h', Bx n K L RF b h0 h' (dst E j e v) → P h') : hk h (b + j) = 20 ∧ (0 ≤ e ∧ e < (hl h (b + j) : Int)) ∧ (∀ h', h' = hsi h (b + j) e.toNat v → P h') :=
  ⟨by rw [← hk']; exact (M.1.2.1 j hj).1, ⟨h1, by rw [(M.1.2.1 j hj).2, hn]; exact h2⟩, fun h' q => H h' (by rw [q]; exact M.st j hj h1)⟩
theorem Bx.asb (M : Bx n K L RF b h0 h E) (j m : Nat) {e v : Int} {P : PH → Prop} (hj : j < n) (hk' : K j = 21) (hn : L j = m) (h1 : 0 ≤ e) (h2 : e < m) (H : ∀ h', Bx n K L RF b h0 h' (dst E j e (bi2b v)) → P h') : hk h (b + j) = 21 ∧ (0 ≤ e ∧ e < (hl h (b + j) : Int)) ∧ (∀ h', h' = hsi h (b + j) e.toNat (bi2b v) → P h') :=
  ⟨by rw [← hk']; exact (M.1.2.1 j hj).1, ⟨h1, by rw [(M.1.2.1 j hj).2, hn]; exact h2⟩, fun h' q => H h' (by rw [q]; exact M.st j hj h1)⟩
theorem Bx.pf (M : Bx n K L RF b h0 h E) (j f k : Nat) {v : Int} {P : PH → Prop} (hj : j < n) (hk' : K j = k) (H : ∀ h', Bx n K L RF b h0 h' (dst E j f v) → P h') : hk h (b + j) = k ∧ (∀ h', h' = hsi h (b + j) f v → P h') :=
  ⟨by rw [← hk']; exact (M.1.2.1 j hj).1, fun h' q => H h' (by rw [q]; have := M.st j (e := f) (v := v) hj (by omega); rwa [Int.toNat_natCast] at this)⟩
theorem Bx.al (M : Bx n K L RF b h0 h E) (j m kd : Nat) {P : Prop} (hj : j < n) (hk' : K j = kd) (hkd : 20 ≤ kd ∧ kd ≤ 26) (hn : L j = m) (H : hl h (b + j) = m → P) : (20 ≤ hk h (b + j) ∧ hk h (b + j) ≤ 26) ∧ P := by
  rw [(M.1.2.1 j hj).1, hk']
  exact ⟨hkd, H (by rw [(M.1.2.1 j hj).2, hn])⟩
theorem Bx.cast (M : Bx n K L RF b h0 h E) (e : E' = E) : Bx n K L RF b h0 h E' := by rw [e]; exact M
/-- a block that stands as at the start, when another block has changed -/
theorem Bx.at {n' : Nat} {K' L' : Nat → Nat} {RF' : List (Nat × Nat × Nat)} {b' : Nat} (B : Bx n K L RF b h0 h0 E) {E' : Nat → Int → Int} (hd : b + n ≤ b' ∨ b' + n' ≤ b) (M : Bx n' K' L' RF' b' h0 h E') : Bx n K L RF b h h E := by
  obtain ⟨m1, m2, m3⟩ := B
  have S := M.2.1
  refine ⟨⟨m1.1, fun j hj => ?_, fun q hq => ?_⟩, Sa.rfl', fun j e hj he => ?_⟩
  · rw [S.ek, S.el]; exact m1.2.1 j hj
  · rw [S.er]; exact m1.2.2 q hq
  · rw [S.2.2.2 _ _ (by omega)]; exact m3 j e hj he
/-- the same block from the present heap on -/
theorem Bx.now (M : Bx n K L RF b h0 h E) : Bx n K L RF b h h E := ⟨M.1, Sa.rfl', M.2.2⟩
theorem Bx.back {h1 : PH} (M : Bx n K L RF b h0 h E) (M' : Bx n K L RF b h h1 E') : Bx n K L RF b h0 h1 E' := ⟨M'.1, M.2.1.trans M'.2.1, M'.2.2⟩
end BLK
def kH : Nat → Nat
  | 0 => 1
  | 6 => 2
  | 9 => 2
  | _ => 20
def lH : Nat → Nat
  | 0 => 15
  | 1 => 4
  | 2 => 24
  | 3 => 48
  | 4 => 6
  | 5 => 24
  | 6 => 3
  | 7 => 6
  | 8 => 546
  | 9 => 3
  | 10 => 6
  | 11 => 168
  | 12 => 6
  | _ => 200
def rH : List (Nat × Nat × Nat) := [(0, 0, 1), (0, 1, 2), (0, 2, 3), (0, 3, 4), (0, 4, 5), (0, 5, 6), (0, 6, 9), (0, 7, 12), (0, 8, 13), (6, 1, 7), (6, 2, 8), (9, 1, 10), (9, 2, 11)]
abbrev Hx (b : Nat) (h0 h : PH) (E : Nat → Int → Int) : Prop := Bx 14 kH lH rH b h0 h E
def kP : Nat → Nat
  | 0 => 6
  | 1 => 3
  | 3 => 21
  | 4 => 3
  | 6 => 21
  | _ => 20
def lP : Nat → Nat
  | 0 => 5
  | 1 => 3
  | 2 => 8
  | 3 => 56
  | 4 => 3
  | 5 => 8
  | 6 => 56
  | 7 => 48
  | 8 => 48
  | _ => 768
def rP : List (Nat × Nat × Nat) := [(0, 0, 1), (0, 1, 4), (0, 2, 7), (0, 3, 8), (0, 4, 9), (1, 0, 2), (1, 1, 3), (4, 0, 5), (4, 1, 6)]
abbrev Px (b : Nat) (h0 h : PH) (E : Nat → Int → Int) : Prop := Bx 10 kP lP rP b h0 h E
def kO : Nat → Nat
  | 0 => 4
  | _ => 21
def lO : Nat → Nat
  | 0 => 2
  | _ => 400
def rO : List (Nat × Nat × Nat) := [(0, 0, 1)]
abbrev Ox (b : Nat) (h0 h : PH) (E : Nat → Int → Int) : Prop := Bx 2 kO lO rO b h0 h E
