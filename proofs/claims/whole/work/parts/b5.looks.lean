/-! where a signal is, on both sides; the rows of numbers that never change -/
section PNL
variable {K P c N : Int} {s : Int → Int} {g : Int}
abbrev fnq (s : Int → Int) (g q : Int) : Int := ffi (fun i => qv s q i 0) g (s (115 + q)).toNat 0
abbrev fns (s : Int → Int) (g q : Int) : Int := ffi (fun i => sv s q i 0) g (s (511 + q)).toNat 0
theorem fnq_some {q : Int} (h : fnq s g q ≠ -1) : ∃ i, 0 ≤ i ∧ i < s (115 + q) ∧ qv s q i 0 = g := by
  rcases ffi_spec (f := fun i => qv s q i 0) (g := g) (s (115 + q)).toNat 0 with h1 | h1
  · exact absurd h1.1 h
  · exact ⟨_, h1.1, by omega, h1.2.2.1⟩
theorem fns_some {q : Int} (h : fns s g q ≠ -1) : ∃ i, 0 ≤ i ∧ i < s (511 + q) ∧ sv s q i 0 = g := by
  rcases ffi_spec (f := fun i => sv s q i 0) (g := g) (s (511 + q)).toNat 0 with h1 | h1
  · exact absurd h1.1 h
  · exact ⟨_, h1.1, by omega, h1.2.2.1⟩
theorem fnq_one (I : HI K P c N s) {p q : Int} (hp : 0 ≤ p ∧ p < 6) (hq : 0 ≤ q ∧ q < 6) (h : fnq s g p ≠ -1) (h' : fnq s g q ≠ -1) : p = q := by
  obtain ⟨i, i0, i1, i2⟩ := fnq_some h
  obtain ⟨j, j0, j1, j2⟩ := fnq_some h'
  exact (I.hd.1 p i q j hp.1 hp.2 i0 i1 hq.1 hq.2 j0 j1 (i2.trans j2.symm)).1
theorem fnq_fns (I : HI K P c N s) {p q : Int} (hp : 0 ≤ p ∧ p < 6) (hq : 0 ≤ q ∧ q < 6) (h : fnq s g p ≠ -1) : fns s g q = -1 := by
  by_cases h' : fns s g q = -1
  · exact h'
  · obtain ⟨i, i0, i1, i2⟩ := fnq_some h
    obtain ⟨j, j0, j1, j2⟩ := fns_some h'
    exact absurd (i2.trans j2.symm) (I.hd.2 p i q j hp.1 hp.2 i0 i1 hq.1 hq.2 j0 j1)
theorem fn_out (I : HI K P c N s) {q : Int} (h0 : 0 ≤ P) (h : P ≤ q) (h6 : q < 6) : fnq s g q = -1 ∧ fns s g q = -1 := by
  have z := I.hz.1 q h h6
  constructor
  · unfold fnq
    rw [z.1]
    rfl
  · unfold fns
    rw [z.2]
    rfl
theorem pnl_first : ∀ (n : Nat) (p : Int), 0 ≤ p → (pnl s g n p = -1 ∧ ∀ q, p ≤ q → q < p + n → fnq s g q = -1 ∧ fns s g q = -1) ∨ (∃ q, (p ≤ q ∧ q < p + n) ∧ (∀ r, p ≤ r → r < q → fnq s g r = -1 ∧ fns s g r = -1) ∧ (pnl s g n p = q ∧ fnq s g q ≠ -1 ∨ pnl s g n p = 10 + q ∧ fnq s g q = -1 ∧ fns s g q ≠ -1))
  | 0, p, _ => Or.inl ⟨rfl, fun q a b => by omega⟩
  | n + 1, p, h => by
    have e : pnl s g (n + 1) p = if fnq s g p ≠ -1 then p else if fns s g p ≠ -1 then 10 + p else pnl s g n (p + 1) := rfl
    rw [e]
    by_cases q1 : fnq s g p ≠ -1
    · rw [if_pos q1]
      exact Or.inr ⟨p, ⟨by omega, by omega⟩, fun r a b => by omega, Or.inl ⟨rfl, q1⟩⟩
    · rw [if_neg q1]
      have q1' : fnq s g p = -1 := by omega
      by_cases q2 : fns s g p ≠ -1
      · rw [if_pos q2]
        exact Or.inr ⟨p, ⟨by omega, by omega⟩, fun r a b => by omega, Or.inr ⟨rfl, q1', q2⟩⟩
      · rw [if_neg q2]
        have q2' : fns s g p = -1 := by omega
        rcases pnl_first n (p + 1) (by omega) with h1 | ⟨q, h1, h2, h3⟩
        · refine Or.inl ⟨h1.1, fun q a b => ?_⟩
          by_cases x : q = p
          · rw [x]; exact ⟨q1', q2'⟩
          · exact h1.2 q (by omega) (by omega)
        · refine Or.inr ⟨q, ⟨by omega, by omega⟩, fun r a b => ?_, h3⟩
          by_cases x : r = p
          · rw [x]; exact ⟨q1', q2'⟩
          · exact h2 r (by omega) (by omega)
/-- the model's place is the class's -/
theorem pnl_eq (I : HI K P c N s) (hP : 0 ≤ P ∧ P ≤ 6) : pnl s g P.toNat 0 = if ppl s g 115 qv 6 0 ≠ -1 then ppl s g 115 qv 6 0 else if ppl s g 511 sv 6 0 ≠ -1 then 10 + ppl s g 511 sv 6 0 else -1 := by
  have a := ppl_spec (s := s) (g := g) (a := 115) (f := qv) 6 0 (by omega)
  have b := ppl_spec (s := s) (g := g) (a := 511) (f := sv) 6 0 (by omega)
  generalize ppl s g 115 qv 6 0 = x at a ⊢
  generalize ppl s g 511 sv 6 0 = y at b ⊢
  have a' : (x = -1 ∧ ∀ q, 0 ≤ q → q < 6 → fnq s g q = -1) ∨ ((0 ≤ x ∧ x < 6) ∧ fnq s g x ≠ -1 ∧ ∀ q, 0 ≤ q → q < x → fnq s g q = -1) := by
    rcases a with h | h
    · exact Or.inl ⟨h.1, fun q u v => h.2 q u (by omega)⟩
    · exact Or.inr ⟨⟨h.1.1, by omega⟩, h.2.1, h.2.2⟩
  have b' : (y = -1 ∧ ∀ q, 0 ≤ q → q < 6 → fns s g q = -1) ∨ ((0 ≤ y ∧ y < 6) ∧ fns s g y ≠ -1 ∧ ∀ q, 0 ≤ q → q < y → fns s g q = -1) := by
    rcases b with h | h
    · exact Or.inl ⟨h.1, fun q u v => h.2 q u (by omega)⟩
    · exact Or.inr ⟨⟨h.1.1, by omega⟩, h.2.1, h.2.2⟩
  clear a b
  rcases pnl_first (s := s) (g := g) P.toNat 0 (by omega) with h1 | ⟨q, h1, h2, h3⟩
  · have all : ∀ q, 0 ≤ q → q < 6 → fnq s g q = -1 ∧ fns s g q = -1 := fun q u v => by
      by_cases w : q < P
      · exact h1.2 q u (by omega)
      · exact fn_out I hP.1 (by omega) v
    have hx : x = -1 := by
      rcases a' with h | h
      · exact h.1
      · exact absurd (all x h.1.1 h.1.2).1 h.2.1
    have hy : y = -1 := by
      rcases b' with h | h
      · exact h.1
      · exact absurd (all y h.1.1 h.1.2).2 h.2.1
    rw [h1.1, hx, hy]
    rfl
  · have q6 : 0 ≤ q ∧ q < 6 := by omega
    rcases h3 with h3 | h3
    · have hx : x = q := by
        rcases a' with h | h
        · exact absurd (h.2 q q6.1 q6.2) h3.2
        · exact fnq_one I h.1 q6 h.2.1 h3.2
      rw [h3.1, hx, if_pos (by omega)]
    · have hx : x = -1 := by
        rcases a' with h | h
        · exact h.1
        · exact absurd (fnq_fns I h.1 q6 h.2.1) h3.2.2
      have hy : y = q := by
        rcases b' with h | h
        · exact absurd (h.2 q q6.1 q6.2) h3.2.2
        · by_cases w : y < q
          · exact absurd (h2 y h.1.1 w).2 h.2.1
          · by_cases w2 : q < y
            · exact absurd (h.2.2 q q6.1 w2) h3.2.2
            · omega
      rw [h3.1, hx, hy, if_neg (by omega), if_pos (by omega)]
end PNL
theorem bshl_0 (p : Int) : bshl 0 p = 0 := by
  unfold bshl
  rw [show Int32.ofInt 0 = 0 from rfl]
  have : (0 : Int32) <<< (Int32.ofInt p &&& 31) = 0 := by
    apply Int32.toBitVec_inj.mp
    simp
  rw [this]
  rfl
theorem bor_0 {x : Int} (h : InR x) : bor x 0 = x := by
  unfold bor
  rw [show Int32.ofInt 0 = 0 from rfl]
  have : Int32.ofInt x ||| 0 = Int32.ofInt x := by
    apply Int32.toBitVec_inj.mp
    simp
  rw [this]
  exact oI_toInt h
/-- an array of ints that never changes -/
def SA5 (h : PH) (a n : Nat) (f : Int → Int) : Prop := hk h a = 26 ∧ hl h a = n ∧ ∀ i : Int, 0 ≤ i → i < n → hi h a i.toNat = f i
/-- the parts of a running signal, as the class keeps them -/
def rpv (i : Int) : Int := if i = 0 then 0 else if i = 1 then 1 else if i = 2 then 5 else if i = 3 then 6 else 3
def slo (i : Int) : Int := if i = 1 then 0 else 1
def shi (i : Int) : Int := if i = 0 then 4 else if i = 3 then 12 else 50
def klo (i : Int) : Int := if i = 1 then 0 else 1
def khi (i : Int) : Int := if i = 0 then 99 else if i = 1 then 20 else 200
def SG (h : PH) : Prop := SA5 h 2 4 slo ∧ SA5 h 3 4 shi ∧ SA5 h 4 3 klo ∧ SA5 h 5 3 khi ∧ SA5 h 6 5 rpv
theorem SG.g2 {h : PH} (G : SG h) : SA5 h 2 4 slo := G.1
theorem SG.g3 {h : PH} (G : SG h) : SA5 h 3 4 shi := G.2.1
theorem SG.g4 {h : PH} (G : SG h) : SA5 h 4 3 klo := G.2.2.1
theorem SG.g5 {h : PH} (G : SG h) : SA5 h 5 3 khi := G.2.2.2.1
theorem SG.g6 {h : PH} (G : SG h) : SA5 h 6 5 rpv := G.2.2.2.2
theorem SA5.al {h : PH} {a n : Nat} {f : Int → Int} (S : SA5 h a n f) {P : Prop} (H : hl h a = n → P) : (20 ≤ hk h a ∧ hk h a ≤ 26) ∧ P := ⟨by rw [S.1]; omega, H S.2.1⟩
theorem SA5.ld {h : PH} {a n : Nat} {f : Int → Int} (S : SA5 h a n f) {e : Int} {P : Prop} (h1 : 0 ≤ e) (h2 : e < n) (H : hi h a e.toNat = f e → P) : (hk h a = 20 ∨ hk h a = 26) ∧ (0 ≤ e ∧ e < (hl h a : Int)) ∧ P := ⟨Or.inr S.1, ⟨h1, by rw [S.2.1]; exact h2⟩, H (S.2.2 e h1 h2)⟩
theorem svc_rpv {s : Int → Int} {p i w : Int} (hw : 0 ≤ w ∧ w < 5) : svc s p i (rpv w) = sv s p i w := by
  have : w = 0 ∨ w = 1 ∨ w = 2 ∨ w = 3 ∨ w = 4 := by omega
  rcases this with rfl | rfl | rfl | rfl | rfl <;> rfl
theorem rpv_rng {w : Int} : 0 ≤ rpv w ∧ rpv w < 7 ∧ rpv w ≠ 2 := by
  unfold rpv
  (repeat' split) <;> omega
theorem tef_rng {K P c N : Int} {s : Int → Int} {g : Int} (I : HI K P c N s) : ∀ (n : Nat) (i : Int), 0 ≤ i → i + n ≤ s 2 → i + n ≤ 40 → -1 ≤ tef s g n i ∧ tef s g n i < 6
  | 0, _, _, _, _ => by show (-1 : Int) ≤ -1 ∧ (-1 : Int) < 6; omega
  | n + 1, i, h0, h1, h2 => by
    have t4 := tm40 (x := s 2 - 1 - i) (by omega)
    have rr := I.hr (Int.tmod (s 2 - 1 - i) 40) t4.1 t4.2 (by rw [Int.tmod_eq_emod_of_nonneg (by omega)]; omega)
    have ih := tef_rng (g := g) I n (i + 1) (by omega) (by omega) (by omega)
    show -1 ≤ (if rv s (Int.tmod (s 2 - 1 - i) 40) 0 = g then rv s (Int.tmod (s 2 - 1 - i) 40) 1 else tef s g n (i + 1)) ∧ (if rv s (Int.tmod (s 2 - 1 - i) 40) 0 = g then rv s (Int.tmod (s 2 - 1 - i) 40) 1 else tef s g n (i + 1)) < 6
    split
    · omega
    · exact ih
