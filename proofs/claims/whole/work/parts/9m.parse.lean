/-! what holds of the reading at all times -/
def PR (D : Nat → Int → Int) : Prop := (0 ≤ D 0 20 ∧ D 0 20 ≤ 700) ∧ (0 ≤ D 0 22 ∧ D 0 22 ≤ D 0 21 ∧ D 0 21 ≤ D 0 20) ∧ (0 ≤ D 0 23 ∧ D 0 23 ≤ 4) ∧ (D 0 23 = 2 → 0 ≤ D 0 24 ∧ D 0 24 ≤ 999) ∧ (D 0 23 = 1 → 1 ≤ D 0 21 - D 0 22 ∧ D 0 21 - D 0 22 ≤ 7) ∧ (0 ≤ D 0 25 ∧ D 0 25 ≤ 4) ∧ (-1 ≤ D 0 26 ∧ D 0 26 ≤ 700) ∧ BY D
theorem skl_rng (D : Nat → Int → Int) : ∀ (n : Nat) (p : Int), p ≤ skl D n p ∧ skl D n p ≤ p + n
  | 0, p => by show p ≤ p ∧ p ≤ p + (0 : Nat); omega
  | n + 1, p => by
    have := skl_rng D n (p + 1)
    show p ≤ (if bt D p = 32 then skl D n (p + 1) else p) ∧ (if bt D p = 32 then skl D n (p + 1) else p) ≤ p + (n + 1 : Nat)
    split <;> omega
theorem ltl_rng (D : Nat → Int → Int) : ∀ (n : Nat) (p : Int), p ≤ ltl D n p ∧ ltl D n p ≤ p + n
  | 0, p => by show p ≤ p ∧ p ≤ p + (0 : Nat); omega
  | n + 1, p => by
    have := ltl_rng D n (p + 1)
    show p ≤ (if isL (bt D p) then ltl D n (p + 1) else p) ∧ (if isL (bt D p) then ltl D n (p + 1) else p) ≤ p + (n + 1 : Nat)
    split <;> omega
theorem dgn_rng (D : Nat → Int → Int) : ∀ (n : Nat) (p : Int), p ≤ dgn D n p ∧ dgn D n p ≤ p + n
  | 0, p => by show p ≤ p ∧ p ≤ p + (0 : Nat); omega
  | n + 1, p => by
    have := dgn_rng D n (p + 1)
    show p ≤ (if isD (bt D p) then dgn D n (p + 1) else p) ∧ (if isD (bt D p) then dgn D n (p + 1) else p) ≤ p + (n + 1 : Nat)
    split <;> omega
theorem dgv_rng (D : Nat → Int → Int) (fr : Int) : ∀ (n : Nat) (p a : Int), fr ≤ p → 0 ≤ a ∧ a ≤ 999 → (p = fr → a = 0) → (p = fr + 1 → a ≤ 9) → (p = fr + 2 → a ≤ 99) → 0 ≤ dgv D fr n p a ∧ dgv D fr n p a ≤ 999
  | 0, _, a, _, h, _, _, _ => h
  | n + 1, p, a, hp, h, h0, h1, h2 => by
    show 0 ≤ (if isD (bt D p) then dgv D fr n (p + 1) (if p - fr < 3 then 10 * a + bt D p - 48 else 0) else a) ∧ (if isD (bt D p) then dgv D fr n (p + 1) (if p - fr < 3 then 10 * a + bt D p - 48 else 0) else a) ≤ 999
    split
    · rename_i hd
      split
      · exact dgv_rng D fr n (p + 1) _ (by omega) (by omega) (by omega) (by omega) (by omega)
      · exact dgv_rng D fr n (p + 1) 0 (by omega) (by omega) (by omega) (by omega) (by omega)
    · exact h
theorem ltl_1 {D : Nat → Int → Int} {n : Nat} {p : Int} (h : isL (bt D p)) (hn : 0 < n) : p + 1 ≤ ltl D n p := by
  obtain ⟨m, rfl⟩ : ∃ m, n = m + 1 := ⟨n - 1, by omega⟩
  rw [ltl, if_pos h]
  exact (ltl_rng D m (p + 1)).1
theorem PR.L {D : Nat → Int → Int} (P : PR D) : 0 ≤ D 0 20 ∧ D 0 20 ≤ 700 := P.1
theorem PR.B {D : Nat → Int → Int} (P : PR D) : BY D := P.2.2.2.2.2.2.2
theorem PR.n {D : Nat → Int → Int} (P : PR D) : 0 ≤ D 0 21 ∧ D 0 21 ≤ D 0 20 := ⟨by have := P.2.1; omega, P.2.1.2.2⟩
theorem PR.w {D : Nat → Int → Int} (P : PR D) : InR (D 0 25) := ⟨by have := P.2.2.2.2.2.1; omega, by have := P.2.2.2.2.2.1; omega⟩
theorem tok_20 (D : Nat → Int → Int) : tokD D 0 20 = D 0 20 := rfl
theorem tok_25 (D : Nat → Int → Int) : tokD D 0 25 = D 0 25 := rfl
theorem tok_26 (D : Nat → Int → Int) : tokD D 0 26 = D 0 26 := rfl
theorem tok_21 (D : Nat → Int → Int) : tokD D 0 21 = tkN D (tkP D) := rfl
theorem tok_22 (D : Nat → Int → Int) : tokD D 0 22 = tkP D := rfl
theorem tok_23 (D : Nat → Int → Int) : tokD D 0 23 = tkS D (tkP D) := rfl
theorem tok_24 (D : Nat → Int → Int) : tokD D 0 24 = tkV D (tkP D) (D 0 24) := rfl
theorem tok_row (D : Nat → Int → Int) {j : Nat} (h : j ≠ 0) : tokD D j = D j := by
  funext e
  unfold tokD
  rw [if_neg h]
theorem BY.of {D D' : Nat → Int → Int} (B : BY D) (h : D' 10 = D 10) : BY D' := fun e h0 h1 => by rw [h]; exact B e h0 h1
theorem PR.tok {D : Nat → Int → Int} (P : PR D) : PR (tokD D) := by
  obtain ⟨p1, p2, p3, p4, p5, p6, p7, p8⟩ := id P
  have a1 := skl_rng D (D 0 20 - D 0 21).toNat (D 0 21)
  have a2 : D 0 21 ≤ tkP D ∧ tkP D ≤ D 0 20 := by unfold tkP; omega
  have a3 := bt_rng p8 p1.2 (k := tkP D) (by omega)
  have a4 := ltl_rng D (D 0 20 - tkP D).toNat (tkP D)
  have a5 := dgn_rng D (D 0 20 - tkP D).toNat (tkP D)
  have a6 := dgv_rng D (tkP D) (D 0 20 - tkP D).toNat (tkP D) 0 (by omega) (by omega) (fun _ => rfl) (by omega) (by omega)
  refine ⟨?_, ?_, ?_, ?_, ?_, ?_, ?_, p8.of (tok_row D (by decide))⟩
  · rw [tok_20]; exact p1
  · rw [tok_20, tok_21, tok_22]
    unfold tkN
    (repeat' split) <;> omega
  · rw [tok_23]
    unfold tkS
    (repeat' split) <;> omega
  · rw [tok_23, tok_24]
    unfold tkS tkV
    (repeat' split) <;> omega
  · rw [tok_23, tok_21, tok_22]
    unfold tkS tkN
    split
    · omega
    · split
      · rename_i h1 h2
        have := ltl_1 (n := (D 0 20 - tkP D).toNat) h2 (by omega)
        split <;> omega
      · (repeat' split) <;> omega
  · rw [tok_25]; exact p6
  · rw [tok_26]; exact p7
theorem PR.go {D : Nat → Int → Int} (P : PR D) : PR (gD D) := by
  unfold gD
  split
  · exact P.tok
  · exact P
theorem PR.fl {D : Nat → Int → Int} (P : PR D) {w : Int} (hw : 1 ≤ w ∧ w ≤ 4) : PR (flD D w) := by
  obtain ⟨p1, p2, p3, p4, p5, p6, p7, p8⟩ := id P
  unfold flD
  split
  · refine ⟨?_, ?_, ?_, ?_, ?_, ?_, ?_, p8.of ?_⟩
    · rw [dst_ne (by decide), dst_ne (by decide)]; exact p1
    · rw [dst_ne (by decide), dst_ne (by decide), dst_ne (by decide), dst_ne (by decide), dst_ne (by decide), dst_ne (by decide)]; exact p2
    · rw [dst_ne (by decide), dst_ne (by decide)]; exact p3
    · rw [dst_ne (by decide), dst_ne (by decide), dst_ne (by decide), dst_ne (by decide)]; exact p4
    · rw [dst_ne (by decide), dst_ne (by decide), dst_ne (by decide), dst_ne (by decide), dst_ne (by decide), dst_ne (by decide)]; exact p5
    · rw [dst_ne (by decide), dst_eq]; omega
    · rw [dst_eq]; omega
    · rw [dst_row (by decide), dst_row (by decide)]
  · exact P
theorem PR.fi {D : Nat → Int → Int} (P : PR D) {z w : Int} (hw : 1 ≤ w ∧ w ≤ 4) : PR (fiD D z w) := by
  unfold fiD
  split
  · exact P
  · exact P.fl hw
def tkE (D : Nat → Int → Int) (lo hi : Int) : Nat → Int → Int := if D 0 23 = 2 then (if lo ≤ D 0 24 ∧ D 0 24 ≤ hi then D else flD D 2) else flD D 1
def tvV (D : Nat → Int → Int) (lo hi : Int) : Int := if tkE D lo hi 0 25 = 0 then tkE D lo hi 0 24 else lo
theorem PR.tE {D : Nat → Int → Int} (P : PR D) (lo hi : Int) : PR (tkE D lo hi) := by
  unfold tkE
  split
  · split
    · exact P
    · exact P.fl (by decide)
  · exact P.fl (by decide)
def nmc (D : Nat → Int → Int) (bg en i : Int) : Int := if bg + i < en then D 10 (bg + i) else 0
def nme (f : Int → Int) (D : Nat → Int → Int) (bg en k : Int) : Nat → Int → Int → Int
  | 0, _, z => z
  | n + 1, i, z => nme f D bg en k n (i + 1) (if z = 1 ∧ f (7 * k + i) = nmc D bg en i ∧ (nmc D bg en i ≠ 0 ∨ en ≤ bg + i) then 1 else 0)
def nmv (f : Int → Int) (D : Nat → Int → Int) (bg en : Int) : Nat → Int → Int
  | 0, _ => -1
  | n + 1, k => if 1 ≤ en - bg ∧ en - bg ≤ 7 then (if nme f D bg en k 7 0 1 = 1 then k else nmv f D bg en n (k + 1)) else -1
/-- a row of names: bytes -/
def NB (f : Int → Int) : Prop := ∀ e, 0 ≤ e → e < 56 → 0 ≤ f e ∧ f e ≤ 255
theorem nmv_rng (f : Int → Int) (D : Nat → Int → Int) (bg en : Int) : ∀ (n : Nat) (k : Int), 0 ≤ k → nmv f D bg en n k = -1 ∨ 0 ≤ nmv f D bg en n k ∧ nmv f D bg en n k < k + n
  | 0, k, _ => Or.inl rfl
  | n + 1, k, hk => by
    have := nmv_rng f D bg en n (k + 1) (by omega)
    show (if 1 ≤ en - bg ∧ en - bg ≤ 7 then (if nme f D bg en k 7 0 1 = 1 then k else nmv f D bg en n (k + 1)) else -1) = -1 ∨ 0 ≤ (if 1 ≤ en - bg ∧ en - bg ≤ 7 then (if nme f D bg en k 7 0 1 = 1 then k else nmv f D bg en n (k + 1)) else -1) ∧ (if 1 ≤ en - bg ∧ en - bg ≤ 7 then (if nme f D bg en k 7 0 1 = 1 then k else nmv f D bg en n (k + 1)) else -1) < k + (n + 1 : Nat)
    split
    · split <;> omega
    · omega
theorem fl_row (D : Nat → Int → Int) (w : Int) {j : Nat} (h : j ≠ 0) : flD D w j = D j := by
  unfold flD
  split
  · rw [dst_row h, dst_row h]
  · rfl
theorem fl_0 (D : Nat → Int → Int) (w : Int) {e : Int} (h : e ≠ 25) (h' : e ≠ 26) : flD D w 0 e = D 0 e := by
  unfold flD
  split
  · rw [dst_ne h', dst_ne h]
  · rfl
theorem go_row (D : Nat → Int → Int) {j : Nat} (h : j ≠ 0) : gD D j = D j := by
  unfold gD
  split
  · exact tok_row D h
  · rfl
def n1D (D : Nat → Int → Int) : Nat → Int → Int := if D 0 23 = 1 then D else flD D 1
theorem n1_row (D : Nat → Int → Int) {j : Nat} (h : j ≠ 0) : n1D D j = D j := by
  unfold n1D
  split
  · rfl
  · exact fl_row D 1 h
theorem PR.n1 {D : Nat → Int → Int} (P : PR D) : PR (n1D D) := by
  unfold n1D
  split
  · exact P
  · exact P.fl (by decide)
/-- the place of the name that is read, -1 none; 0 if there is an error -/
def nhK (j : Nat) (many : Int) (D : Nat → Int → Int) : Int := if n1D D 0 25 = 0 then nmv (n1D D j) (n1D D) (n1D D 0 22) (n1D D 0 21) many.toNat 0 else 0
def nhD (j : Nat) (many : Int) (D : Nat → Int → Int) : Nat → Int → Int := if nhK j many D = -1 then flD (n1D D) 3 else n1D D
def nhV (j : Nat) (many : Int) (D : Nat → Int → Int) : Int := if nhD j many D 0 25 = 0 then nhK j many D else 0
theorem nh_row (j : Nat) (many : Int) (D : Nat → Int → Int) {i : Nat} (h : i ≠ 0) : nhD j many D i = D i := by
  unfold nhD
  split
  · rw [fl_row _ _ h, n1_row D h]
  · exact n1_row D h
theorem PR.nh {D : Nat → Int → Int} (P : PR D) (j : Nat) (many : Int) : PR (nhD j many D) := by
  unfold nhD
  split
  · exact P.n1.fl (by decide)
  · exact P.n1
theorem n1_0 (D : Nat → Int → Int) {e : Int} (h : e ≠ 25) (h' : e ≠ 26) : n1D D 0 e = D 0 e := by
  unfold n1D
  split
  · rfl
  · exact fl_0 D 1 h h'
theorem nh_0 (j : Nat) (many : Int) (D : Nat → Int → Int) {e : Int} (h : e ≠ 25) (h' : e ≠ 26) : nhD j many D 0 e = D 0 e := by
  unfold nhD
  split
  · rw [fl_0 _ _ h h', n1_0 D h h']
  · exact n1_0 D h h'
def nnD (j : Nat) (many : Int) (D : Nat → Int → Int) : Nat → Int → Int := if n1D D 0 25 = 0 ∧ nmv (n1D D j) (n1D D) (n1D D 0 22) (n1D D 0 21) many.toNat 0 ≠ -1 then flD (n1D D) 3 else n1D D
def nwl (j : Nat) (k : Int) : Nat → Int → (Nat → Int → Int) → Nat → Int → Int
  | 0, _, D => D
  | n + 1, i, D => nwl j k n (i + 1) (dst D j (7 * k + i) (nmc D (D 0 22) (D 0 21) i))
def nwD (j : Nat) (many k : Int) (D : Nat → Int → Int) : Nat → Int → Int := gD (if nnD j many D 0 25 = 0 then nwl j k 7 0 (nnD j many D) else nnD j many D)
theorem PR.nn {D : Nat → Int → Int} (P : PR D) (j : Nat) (many : Int) : PR (nnD j many D) := by
  unfold nnD
  split
  · exact P.n1.fl (by decide)
  · exact P.n1
theorem PR.row {D : Nat → Int → Int} (P : PR D) {j : Nat} (e v : Int) (h0 : j ≠ 0) (h1 : j ≠ 10) : PR (dst D j e v) := by
  obtain ⟨p1, p2, p3, p4, p5, p6, p7, p8⟩ := id P
  have r : dst D j e v 0 = D 0 := dst_row (Ne.symm h0)
  refine ⟨?_, ?_, ?_, ?_, ?_, ?_, ?_, p8.of (dst_row (Ne.symm h1))⟩ <;> rw [r] <;> assumption
def apb (a1 b1 c1 d1 e1 k : Int) : Int := band (bshr (if k < 4 then a1 else if k < 8 then b1 else if k < 12 then c1 else if k < 16 then d1 else e1) (24 - 8 * Int.tmod k 4)) 255
def apl (a1 b1 c1 d1 e1 : Int) : Nat → Int → (Nat → Int → Int) → Nat → Int → Int
  | 0, _, D => D
  | n + 1, k, D => apl a1 b1 c1 d1 e1 n (k + 1) (dst D 10 (D 0 17 + k) (apb a1 b1 c1 d1 e1 k))
theorem nme_D {f : Int → Int} {D D' : Nat → Int → Int} (q : D' 10 = D 10) (bg en k : Int) : ∀ (n : Nat) (i z : Int), nme f D' bg en k n i z = nme f D bg en k n i z
  | 0, _, _ => rfl
  | n + 1, i, z => by
    have c : nmc D' bg en i = nmc D bg en i := by unfold nmc; rw [q]
    show nme f D' bg en k n (i + 1) (if z = 1 ∧ f (7 * k + i) = nmc D' bg en i ∧ (nmc D' bg en i ≠ 0 ∨ en ≤ bg + i) then 1 else 0) = nme f D bg en k n (i + 1) (if z = 1 ∧ f (7 * k + i) = nmc D bg en i ∧ (nmc D bg en i ≠ 0 ∨ en ≤ bg + i) then 1 else 0)
    rw [c, nme_D q]
theorem nmv_D {f : Int → Int} {D D' : Nat → Int → Int} (q : D' 10 = D 10) (bg en : Int) : ∀ (n : Nat) (k : Int), nmv f D' bg en n k = nmv f D bg en n k
  | 0, _ => rfl
  | n + 1, k => by
    show (if 1 ≤ en - bg ∧ en - bg ≤ 7 then (if nme f D' bg en k 7 0 1 = 1 then k else nmv f D' bg en n (k + 1)) else -1) = (if 1 ≤ en - bg ∧ en - bg ≤ 7 then (if nme f D bg en k 7 0 1 = 1 then k else nmv f D bg en n (k + 1)) else -1)
    rw [nme_D q, nmv_D q]
