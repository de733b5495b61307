/-! what a stretch of the reading keeps: D' is D but for the token and the error, and lies at a later place -/
def ST (D D' : Nat → Int → Int) : Prop := PR D' ∧ (∀ e, e < 21 ∨ 26 < e → D' 0 e = D 0 e) ∧ (∀ j, j ≠ 0 → D' j = D j) ∧ D 0 21 ≤ D' 0 21 ∧ (D' 0 25 = 0 → D 0 25 = 0)
theorem ST.refl {D : Nat → Int → Int} (P : PR D) : ST D D := ⟨P, fun _ _ => rfl, fun _ _ => rfl, Int.le_refl _, id⟩
theorem ST.P {D D' : Nat → Int → Int} (S : ST D D') : PR D' := S.1
theorem ST.f {D D' : Nat → Int → Int} (S : ST D D') {e : Int} (h : e < 21 ∨ 26 < e) : D' 0 e = D 0 e := S.2.1 e h
theorem ST.r {D D' : Nat → Int → Int} (S : ST D D') {j : Nat} (h : j ≠ 0) : D' j = D j := S.2.2.1 j h
theorem ST.n {D D' : Nat → Int → Int} (S : ST D D') : D 0 21 ≤ D' 0 21 := S.2.2.2.1
theorem ST.e {D D' : Nat → Int → Int} (S : ST D D') (h : D' 0 25 = 0) : D 0 25 = 0 := S.2.2.2.2 h
theorem ST.K {D D' : Nat → Int → Int} (S : ST D D') (K : KP D) : KP D' := K.keep (S.f (by decide)) (S.f (by decide)) (S.r (by decide)) (S.r (by decide))
theorem ST.trans {A D D' : Nat → Int → Int} (S : ST A D) (T : ST D D') : ST A D' := ⟨T.P, fun e h => (T.f h).trans (S.f h), fun j h => (T.r h).trans (S.r h), Int.le_trans S.n T.n, fun h => S.e (T.e h)⟩
theorem tk_le {D : Nat → Int → Int} (P : PR D) : D 0 21 ≤ tkP D ∧ tkP D ≤ tkN D (tkP D) ∧ (tkS D (tkP D) ≠ 0 → tkP D + 1 ≤ tkN D (tkP D)) := by
  obtain ⟨p1, p2, p3, p4, p5, p6, p7, p8⟩ := id P
  have a1 := skl_rng D (D 0 20 - D 0 21).toNat (D 0 21)
  have a2 : D 0 21 ≤ tkP D ∧ tkP D ≤ D 0 20 := by unfold tkP; omega
  have a3 := bt_rng p8 p1.2 (k := tkP D) (by omega)
  have a4 := ltl_rng D (D 0 20 - tkP D).toNat (tkP D)
  have a5 := dgn_rng D (D 0 20 - tkP D).toNat (tkP D)
  refine ⟨a2.1, ?_, ?_⟩
  · unfold tkN
    (repeat' split) <;> omega
  · unfold tkN tkS
    split
    · intro h; exact absurd rfl h
    · intro _
      split
      · rename_i h1 h2
        exact ltl_1 h2 (by omega)
      · split
        · rename_i h1 h2 h3
          obtain ⟨m, hm⟩ : ∃ m, (D 0 20 - tkP D).toNat = m + 1 := ⟨(D 0 20 - tkP D).toNat - 1, by omega⟩
          rw [hm, dgn, if_pos h3]
          exact (dgn_rng D m (tkP D + 1)).1
        · omega
theorem ST.tok {D : Nat → Int → Int} (P : PR D) : ST D (tokD D) := ⟨P.tok, fun _ h => tok_0 D h, fun _ h => tok_row D h, by rw [tok_21]; have := tk_le P; omega, fun h => by rw [tok_25] at h; exact h⟩
theorem ST.go {A D : Nat → Int → Int} (S : ST A D) : ST A (gD D) := by
  refine S.trans ?_
  unfold gD
  split
  · exact ST.tok S.P
  · exact ST.refl S.P
theorem fl_21 (D : Nat → Int → Int) (w : Int) : flD D w 0 21 = D 0 21 := fl_0 D w (by decide) (by decide)
theorem ST.fl {A D : Nat → Int → Int} (S : ST A D) {w : Int} (hw : 1 ≤ w ∧ w ≤ 4) : ST A (flD D w) := by
  refine S.trans ⟨S.P.fl hw, fun e h => fl_0 D w (by omega) (by omega), fun j h => fl_row D w h, by rw [fl_21]; exact Int.le_refl _, fun h => absurd h (fl_25 D (by omega))⟩
theorem ST.fi {A D : Nat → Int → Int} (S : ST A D) {z w : Int} (hw : 1 ≤ w ∧ w ≤ 4) : ST A (fiD D z w) := by
  unfold fiD
  split
  · exact S
  · exact S.fl hw
theorem ST.n1 {A D : Nat → Int → Int} (S : ST A D) : ST A (n1D D) := by
  unfold n1D
  split
  · exact S
  · exact S.fl (by decide)
theorem ST.nh {A D : Nat → Int → Int} (S : ST A D) (j : Nat) (many : Int) : ST A (nhD j many D) := by
  unfold nhD
  split
  · exact S.n1.fl (by decide)
  · exact S.n1
theorem ST.nn {A D : Nat → Int → Int} (S : ST A D) (j : Nat) (many : Int) : ST A (nnD j many D) := by
  unfold nnD
  split
  · exact S.n1.fl (by decide)
  · exact S.n1
theorem ST.tE {A D : Nat → Int → Int} (S : ST A D) (lo hi : Int) : ST A (tkE D lo hi) := by
  unfold tkE
  split
  · split
    · exact S
    · exact S.fl (by decide)
  · exact S.fl (by decide)
theorem ST.l1 {A D : Nat → Int → Int} (S : ST A D) (f K : Int) : ST A (l1D D f K) := by
  unfold l1D
  split
  · exact S.fl (by decide)
  · exact S
/-- no error behind a name: it is one of those that there are -/
theorem nh_ok {j : Nat} {many : Int} {D : Nat → Int → Int} (hm : 0 ≤ many) (h : nhD j many D 0 25 = 0) : D 0 23 = 1 ∧ n1D D = D ∧ 0 ≤ nhV j many D ∧ nhV j many D < many ∧ nhV j many D = nmv (D j) D (D 0 22) (D 0 21) many.toNat 0 := by
  have n0 : n1D D 0 25 = 0 := by
    unfold nhD at h
    split at h
    · exact absurd h (fl_25 _ (by decide))
    · exact h
  have s1 : D 0 23 = 1 := by
    unfold n1D at n0
    split at n0
    · assumption
    · exact absurd n0 (fl_25 _ (by decide))
  have e1 : n1D D = D := by unfold n1D; rw [if_pos s1]
  have hk : nhK j many D ≠ -1 := by
    intro e
    unfold nhD at h
    rw [if_pos e] at h
    exact fl_25 _ (by decide) h
  have ek : nhK j many D = nmv (D j) D (D 0 22) (D 0 21) many.toNat 0 := by unfold nhK; rw [if_pos n0, e1]
  have ev : nhV j many D = nhK j many D := by unfold nhV; rw [if_pos h]
  have := nmv_rng (D j) D (D 0 22) (D 0 21) many.toNat 0 (by omega)
  rw [ev, ek]
  rw [ek] at hk
  refine ⟨s1, e1, ?_, ?_, rfl⟩ <;> omega
/-- no error behind a number -/
theorem tE_ok {D : Nat → Int → Int} {lo hi : Int} (h : tkE D lo hi 0 25 = 0) : D 0 23 = 2 ∧ (lo ≤ D 0 24 ∧ D 0 24 ≤ hi) ∧ tvV D lo hi = D 0 24 := by
  have h2 : D 0 23 = 2 := by
    unfold tkE at h
    split at h
    · assumption
    · exact absurd h (fl_25 _ (by decide))
  have h3 : lo ≤ D 0 24 ∧ D 0 24 ≤ hi := by
    unfold tkE at h
    rw [if_pos h2] at h
    split at h
    · assumption
    · exact absurd h (fl_25 _ (by decide))
  refine ⟨h2, h3, ?_⟩
  unfold tvV
  rw [if_pos h]
  unfold tkE
  rw [if_pos h2, if_pos h3]
theorem go_25 (D : Nat → Int → Int) : gD D 0 25 = D 0 25 := by
  unfold gD
  split
  · rfl
  · rfl
theorem tv_rng {D : Nat → Int → Int} (P : PR D) {lo hi : Int} (h : 0 ≤ lo ∧ lo ≤ hi ∧ hi ≤ 999) : 0 ≤ tvV D lo hi ∧ tvV D lo hi ≤ 999 := by
  by_cases c : tkE D lo hi 0 25 = 0
  · have := tE_ok c
    omega
  · unfold tvV
    rw [if_neg c]
    omega
/-! the acts -/
section LA
variable {D : Nat → Int → Int}
theorem ST_laF (P : PR D) : ST D (laF D) := by
  unfold laF
  split
  · exact (ST.refl P).fl (by decide)
  · exact ST.refl P
theorem ST_laA (P : PR D) (g : Int) : ST D (laA D g) := by
  unfold laA
  split
  · exact (ST_laF P).fl (by decide)
  · exact ST_laF P
theorem ST_laB (P : PR D) (g : Int) : ST D (laB D g) := (ST_laA P g).go
theorem ST_laC (P : PR D) (g : Int) : ST D (laC D g) := ((ST_laB P g).nh _ _).go
theorem ST_laE (P : PR D) (g : Int) : ST D (laE D g) := by
  unfold laE
  split
  · exact ((ST_laC P g).nh _ _).go
  · exact ST_laC P g
theorem ST_laG (P : PR D) (g : Int) : ST D (laG D g) := by
  unfold laG
  split
  · exact ((ST_laE P g).tE _ _).go
  · exact ST_laE P g
end LA
theorem la_row {D : Nat → Int → Int} (P : PR D) (g : Int) {j : Nat} (h0 : j ≠ 0) (h16 : j ≠ 16) (h17 : j ≠ 17) : laD D g j = D j := by
  unfold laD
  split
  · rw [dst_row h16, dst_row h17, dst_row h17, dst_row h17, dst_row h17, (ST_laG P g).r h0]
  · exact (ST_laG P g).r h0
theorem la_0 {D : Nat → Int → Int} (g : Int) : laD D g 0 = laG D g 0 := by
  unfold laD
  split
  · rw [dst_row (by decide), dst_row (by decide), dst_row (by decide), dst_row (by decide), dst_row (by decide)]
  · rfl
theorem PR.of0 {D D' : Nat → Int → Int} (P : PR D) (h0 : D' 0 = D 0) (h10 : D' 10 = D 10) : PR D' := by
  obtain ⟨p1, p2, p3, p4, p5, p6, p7, p8⟩ := P
  unfold PR
  rw [h0]
  exact ⟨p1, p2, p3, p4, p5, p6, p7, p8.of h10⟩
theorem PR.la {D : Nat → Int → Int} (P : PR D) (g : Int) : PR (laD D g) := by
  refine (ST_laG P g).P.of0 (la_0 g) ?_
  rw [la_row P g (by decide) (by decide) (by decide), (ST_laG P g).r (by decide)]
theorem KP.la {D : Nat → Int → Int} (K : KP D) (P : PR D) (g : Int) : KP (laD D g) := K.keep (by rw [la_0, (ST_laG P g).f (by decide)]) (by rw [la_0, (ST_laG P g).f (by decide)]) (la_row P g (by decide) (by decide) (by decide)) (la_row P g (by decide) (by decide) (by decide))
theorem la_16 {D : Nat → Int → Int} (P : PR D) (g : Int) : laD D g 16 g = (if laG D g 0 25 = 0 then D 16 g + 1 else D 16 g) ∧ (laG D g 0 25 = 0 → D 16 g ≠ 4) := by
  refine ⟨?_, fun h => (la_room h).2⟩
  unfold laD
  split
  · rw [dst_eq]
  · rw [(ST_laG P g).r (by decide)]
def lal (g : Int) : Nat → (Nat → Int → Int) → Nat → Int → Int
  | 0, D => D
  | n + 1, D => if D 0 25 = 0 ∧ D 0 23 = 1 then lal g n (laD D g) else D
/-! handle lines, lines, the text -/
def lng (D : Nat → Int → Int) : Int := 8 * lhp D + lhk D
def lnE (D : Nat → Int → Int) : Nat → Int → Int := if lhC D 0 25 = 0 ∧ 0 < lhC D 15 (lng D) then flD (lhC D) 3 else lhC D
def lnF (D : Nat → Int → Int) : Nat → Int → Int := gD (lnE D)
def lnT (D : Nat → Int → Int) : Nat → Int → Int := gD (tkE (lnF D) 1 20)
def lnR (D : Nat → Int → Int) : Nat → Int → Int := dst (dst (lnT D) 15 (lng D) (tvV (lnF D) 1 20)) 0 33 (D 0 33 + 1)
def lnD (D : Nat → Int → Int) : Nat → Int → Int := if lnT D 0 25 = 0 then lal (lng D) 5 (lnR D) else lnT D
section LN
variable {D : Nat → Int → Int}
theorem ST_lhC (P : PR D) : ST D (lhC D) := (((ST.refl P).go.nh _ _).go).nh _ _
theorem ST_lhE (P : PR D) : ST D (lhE D) := by
  unfold lhE
  split
  · exact (ST_lhC P).fl (by decide)
  · exact ST_lhC P
theorem ST_lnE (P : PR D) : ST D (lnE D) := by
  unfold lnE
  split
  · exact (ST_lhC P).fl (by decide)
  · exact ST_lhC P
theorem ST_lnF (P : PR D) : ST D (lnF D) := (ST_lnE P).go
theorem ST_lnT (P : PR D) : ST D (lnT D) := ((ST_lnF P).tE _ _).go
theorem ST_lsE (P : PR D) : ST D (lsE D) := (((((((ST.refl P).l1 _ _).go.nh _ _).go).nh _ _).go).tE _ _).go
end LN
theorem lhp_rng {D : Nat → Int → Int} (K : KP D) : 0 ≤ lhp D ∧ lhp D < 6 := by
  have := nhV_rng 12 (many := D 0 32) (gD D) K.2.1.1
  have := K.2.1.2
  unfold lhp
  omega
theorem lhk_rng {D : Nat → Int → Int} (K : KP D) : 0 ≤ lhk D ∧ lhk D < 8 := by
  have := nhV_rng 11 (many := D 0 31) (lhB D) K.1.1
  have := K.1.2
  unfold lhk
  omega
/-- no error up to the kind of a handler: both names stand -/
theorem lh_ok {D : Nat → Int → Int} (P : PR D) (K : KP D) (h : lhC D 0 25 = 0) : (0 ≤ lhp D ∧ lhp D < D 0 32) ∧ (0 ≤ lhk D ∧ lhk D < D 0 31) := by
  have s1 : ST D (gD D) := (ST.refl P).go
  have s2 : ST (gD D) (nhD 12 (D 0 32) (gD D)) := (ST.refl s1.P).nh _ _
  have s3 : ST (nhD 12 (D 0 32) (gD D)) (lhB D) := (ST.refl s2.P).go
  have h2 := nh_ok (j := 11) (many := D 0 31) (D := lhB D) K.1.1 h
  have hB : lhB D 0 25 = 0 := ((ST.refl s3.P).nh 11 (D 0 31)).e h
  have hA : nhD 12 (D 0 32) (gD D) 0 25 = 0 := s3.e hB
  have h1 := nh_ok K.2.1.1 hA
  exact ⟨⟨h1.2.2.1, h1.2.2.2.1⟩, ⟨h2.2.2.1, h2.2.2.2.1⟩⟩
theorem aht_rng (D : Nat → Int → Int) : -1 ≤ aht D ∧ aht D ≤ 3 := by
  unfold aht
  (repeat' split) <;> omega
def liD (D : Nat → Int → Int) : Nat → Int → Int := if wdv D (wdt 29) = 1 then lkD D else if wdv D (wdt 30) = 1 then lpD D else if wdv D (wdt 31) = 1 then lnD D else if wdv D (wdt 32) = 1 then lhD D else if wdv D (wdt 33) = 1 then lsD D else flD D 1
def rdz : Nat → Int → (Nat → Int → Int) → Nat → Int → Int
  | 0, _, D => D
  | n + 1, k, D => rdz n (k + 1) (dst (dst D 15 k 0) 16 k 0)
def rdm : Nat → Int → (Nat → Int → Int) → Nat → Int → Int
  | 0, _, D => D
  | n + 1, k, D => rdm n (k + 1) (dst D 14 k 0)
def rd0 (D : Nat → Int → Int) (n : Int) : Nat → Int → Int := dst (dst (dst (dst (dst (dst (dst (dst D 0 20 n) 0 21 0) 0 25 0) 0 26 (-1)) 0 31 0) 0 32 0) 0 33 0) 0 34 0
def rdA (D : Nat → Int → Int) (n : Int) : Nat → Int → Int := tokD (rdm 6 0 (rdz 48 0 (rd0 D n)))
def rdC (A : Nat → Int → Int) : Nat → Int → Int := gD (if wdv A (wdt 34) = 1 then A else flD A 1)
def rd1 (C : Nat → Int → Int) : Nat → Int → Int := dst (gD (tkE C 1 4)) 0 27 (tvV C 1 4)
def rd2 (C : Nat → Int → Int) : Nat → Int → Int := dst (gD (tkE C 0 50)) 0 28 (tvV C 0 50)
def rd3 (C : Nat → Int → Int) : Nat → Int → Int := dst (gD (tkE C 1 50)) 0 29 (tvV C 1 50)
def rd4 (C : Nat → Int → Int) : Nat → Int → Int := dst (gD (tkE C 1 12)) 0 30 (tvV C 1 12)
def rdH (D : Nat → Int → Int) (n : Int) : Nat → Int → Int := rd4 (rd3 (rd2 (rd1 (rdC (rdA D n)))))
def rdl : Nat → (Nat → Int → Int) → Nat → Int → Int
  | 0, D => D
  | n + 1, D => if D 0 25 = 0 ∧ D 0 23 = 3 then rdl n (liD (tokD D)) else D
def rdZ (D : Nat → Int → Int) : Nat → Int → Int := if D 0 23 = 0 then D else flD D 1
/-- the whole reading of the first n bytes -/
def rdD (D : Nat → Int → Int) (n : Int) : Nat → Int → Int := rdZ (rdl 702 (rdH D n))
