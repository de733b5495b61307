/-! what holds of the reading's rows at all times -/
def AO (D : Nat → Int → Int) (a : Int) : Prop := (0 ≤ D 17 a ∧ D 17 a ≤ 3) ∧ (0 ≤ D 17 (a + 1) ∧ D 17 (a + 1) < D 0 31) ∧ (-1 ≤ D 17 (a + 2) ∧ D 17 (a + 2) < 6) ∧ (-1 ≤ D 17 (a + 3) ∧ D 17 (a + 3) ≤ 999) ∧ (D 17 a = 0 → (0 ≤ D 17 (a + 2) ∧ D 17 (a + 2) < D 0 32) ∧ 0 ≤ D 17 (a + 3))
def RIa (D : Nat → Int → Int) (g : Int) : Prop := (0 ≤ D 15 g ∧ D 15 g ≤ 20) ∧ (0 ≤ D 16 g ∧ D 16 g ≤ 4) ∧ (D 15 g = 0 → D 16 g = 0) ∧ (0 < D 15 g → g / 8 < D 0 32 ∧ g % 8 < D 0 31) ∧ ∀ i, 0 ≤ i → i < D 16 g → AO D (4 * (4 * g + i))
def RIk (D : Nat → Int → Int) : Prop := ∀ k, 0 ≤ k → k < 8 → (0 ≤ D 13 (3 * k) ∧ D 13 (3 * k) ≤ 99) ∧ (0 ≤ D 13 (3 * k + 1) ∧ D 13 (3 * k + 1) ≤ 20) ∧ (0 ≤ D 13 (3 * k + 2) ∧ D 13 (3 * k + 2) ≤ 200)
def RIs (D : Nat → Int → Int) : Prop := ∀ i, 0 ≤ i → i < D 0 34 → (0 ≤ D 18 (3 * i) ∧ D 18 (3 * i) < D 0 32) ∧ (0 ≤ D 18 (3 * i + 1) ∧ D 18 (3 * i + 1) < D 0 31) ∧ (0 ≤ D 18 (3 * i + 2) ∧ D 18 (3 * i + 2) ≤ 999)
/-- how many of the first n are above 0 -/
def hcn (f : Int → Int) : Nat → Int
  | 0 => 0
  | n + 1 => hcn f n + (if 0 < f n then 1 else 0)
def RI (D : Nat → Int → Int) : Prop := KP D ∧ (0 ≤ D 0 34 ∧ D 0 34 ≤ 12) ∧ (∀ p, 0 ≤ p → p < 6 → InR (D 14 p)) ∧ RIk D ∧ (∀ g, 0 ≤ g → g < 48 → RIa D g) ∧ RIs D ∧ D 0 33 = hcn (D 15) 48
section RI
variable {D D' : Nat → Int → Int}
theorem RI.K (I : RI D) : KP D := I.1
theorem RI.h34 (I : RI D) : 0 ≤ D 0 34 ∧ D 0 34 ≤ 12 := I.2.1
theorem RI.m (I : RI D) : ∀ p, 0 ≤ p → p < 6 → InR (D 14 p) := I.2.2.1
theorem RI.k (I : RI D) : RIk D := I.2.2.2.1
theorem RI.a (I : RI D) {g : Int} (h0 : 0 ≤ g) (h1 : g < 48) : RIa D g := I.2.2.2.2.1 g h0 h1
theorem RI.s (I : RI D) : RIs D := I.2.2.2.2.2.1
theorem RI.c (I : RI D) : D 0 33 = hcn (D 15) 48 := I.2.2.2.2.2.2
theorem hcn_le (f : Int → Int) : ∀ n : Nat, 0 ≤ hcn f n ∧ hcn f n ≤ n
  | 0 => by show (0 : Int) ≤ 0 ∧ (0 : Int) ≤ ((0 : Nat) : Int); omega
  | n + 1 => by
    have := hcn_le f n
    show 0 ≤ hcn f n + (if 0 < f n then 1 else 0) ∧ hcn f n + (if 0 < f n then 1 else 0) ≤ ((n + 1 : Nat) : Int)
    split <;> omega
theorem hcn_out {f : Int → Int} {g v : Int} : ∀ {n : Nat}, (n : Int) ≤ g → hcn (ups f g v) n = hcn f n
  | 0, _ => rfl
  | n + 1, h => by
    show hcn (ups f g v) n + (if 0 < ups f g v n then 1 else 0) = hcn f n + (if 0 < f n then 1 else 0)
    rw [hcn_out (by omega), ups_ne (by omega)]
theorem hcn_up {f : Int → Int} {g v : Int} (h0 : 0 ≤ g) (hf : f g ≤ 0) (hv : 0 < v) : ∀ {n : Nat}, g < n → hcn (ups f g v) n = hcn f n + 1
  | 0, h => by omega
  | n + 1, h => by
    show hcn (ups f g v) n + (if 0 < ups f g v n then 1 else 0) = hcn f n + (if 0 < f n then 1 else 0) + 1
    by_cases q : g = n
    · rw [← q, ups_eq, if_pos hv, if_neg (by omega), hcn_out (by omega)]
      omega
    · rw [hcn_up h0 hf hv (by omega), ups_ne (by omega)]
      omega
theorem AO.mono {a : Int} (A : AO D a) (h : ∀ w, 0 ≤ w → w < 4 → D' 17 (a + w) = D 17 (a + w)) (h1 : D 0 31 ≤ D' 0 31) (h2 : D 0 32 ≤ D' 0 32) : AO D' a := by
  have q0 := h 0 (by omega) (by omega)
  rw [Int.add_zero] at q0
  obtain ⟨a1, a2, a3, a4, a5⟩ := A
  unfold AO
  rw [q0, h 1 (by omega) (by omega), h 2 (by omega) (by omega), h 3 (by omega) (by omega)]
  refine ⟨a1, ⟨a2.1, by omega⟩, a3, a4, fun z => ?_⟩
  have := a5 z
  omega
theorem RIa.mono {g : Int} (A : RIa D g) (h5 : D' 15 g = D 15 g) (h6 : D' 16 g = D 16 g) (h7 : ∀ e, 16 * g ≤ e → e < 16 * g + 16 → D' 17 e = D 17 e) (h1 : D 0 31 ≤ D' 0 31) (h2 : D 0 32 ≤ D' 0 32) : RIa D' g := by
  obtain ⟨a1, a2, a3, a4, a5⟩ := A
  unfold RIa
  rw [h5, h6]
  refine ⟨a1, a2, a3, fun z => ?_, fun i i0 i1 => (a5 i i0 i1).mono (fun w w0 w1 => h7 _ (by omega) (by omega)) h1 h2⟩
  have := a4 z
  omega
theorem RIs.mono (S : RIs D) (h : D' 18 = D 18) (h4 : D' 0 34 = D 0 34) (h1 : D 0 31 ≤ D' 0 31) (h2 : D 0 32 ≤ D' 0 32) : RIs D' := by
  intro i i0 i1
  rw [h4] at i1
  have := S i i0 i1
  rw [h]
  omega
theorem RIk.of (S : RIk D) (h : D' 13 = D 13) : RIk D' := by
  unfold RIk
  rw [h]
  exact S
/-- rows 13 to 18 as they were -/
theorem RI.of (I : RI D) (K : KP D') (hr : ∀ j, 13 ≤ j → j < 19 → D' j = D j) (h1 : D 0 31 ≤ D' 0 31) (h2 : D 0 32 ≤ D' 0 32) (h3 : D' 0 33 = D 0 33) (h4 : D' 0 34 = D 0 34) : RI D' := by
  refine ⟨K, by rw [h4]; exact I.h34, by rw [hr 14 (by decide) (by decide)]; exact I.m, I.k.of (hr 13 (by decide) (by decide)), fun g g0 g1 => ?_, I.s.mono (hr 18 (by decide) (by decide)) h4 h1 h2, by rw [h3, hr 15 (by decide) (by decide)]; exact I.c⟩
  exact (I.a g0 g1).mono (by rw [hr 15 (by decide) (by decide)]) (by rw [hr 16 (by decide) (by decide)]) (fun e _ _ => by rw [hr 17 (by decide) (by decide)]) h1 h2
theorem RI.st (I : RI D) (S : ST D D') : RI D' := I.of (S.K I.K) (fun j a _ => S.r (by omega)) (by rw [S.f (by decide)]; exact Int.le_refl _) (by rw [S.f (by decide)]; exact Int.le_refl _) (S.f (by decide)) (S.f (by decide))
theorem PR.f (P : PR D) {e v : Int} (h : e < 20 ∨ 26 < e) : PR (dst D 0 e v) := by
  obtain ⟨p1, p2, p3, p4, p5, p6, p7, p8⟩ := P
  unfold PR
  rw [dst_ne (by omega), dst_ne (by omega), dst_ne (by omega), dst_ne (by omega), dst_ne (by omega), dst_ne (by omega), dst_ne (by omega)]
  exact ⟨p1, p2, p3, p4, p5, p6, p7, p8.of (dst_row (by decide))⟩
theorem dst3 (G : Nat → Int → Int) (j : Nat) (a x1 x2 x3 : Int) : dst (dst (dst G j a x1) j (a + 1) x2) j (a + 2) x3 j a = x1 ∧ dst (dst (dst G j a x1) j (a + 1) x2) j (a + 2) x3 j (a + 1) = x2 ∧ dst (dst (dst G j a x1) j (a + 1) x2) j (a + 2) x3 j (a + 2) = x3 := by
  refine ⟨?_, ?_, dst_eq _ _ _ _⟩
  · rw [dst_ne (by omega), dst_ne (by omega), dst_eq]
  · rw [dst_ne (by omega), dst_eq]
/-! the names' lines -/
def nwE (j : Nat) (f K : Int) (D : Nat → Int → Int) : Nat → Int → Int := gD (l1D D f K)
theorem l1_ok {f K : Int} {F : Nat → Int → Int} (h : F 0 25 = 0) (P : PR D) (S : ST (gD (l1D D f K)) F) : D 0 f ≠ K := by
  intro e
  have h1 := S.e h
  rw [go_25] at h1
  unfold l1D at h1
  rw [if_pos e] at h1
  exact fl_25 D (by decide) h1
theorem nw_25 (j : Nat) (many k : Int) (h0 : j ≠ 0) (h : nwD j many k D 0 25 = 0) : nnD j many D 0 25 = 0 := by
  unfold nwD at h
  rw [go_25] at h
  split at h
  · assumption
  · assumption
theorem nwl_n (j : Nat) (k : Int) (h0 : j ≠ 0) : nwl j k 7 0 D 0 = D 0 := nwl_row (Ne.symm h0) 7 0 D
theorem nw_n (P : PR D) (j : Nat) (many k : Int) (h0 : j ≠ 0) (h1 : j ≠ 10) : D 0 21 ≤ nwD j many k D 0 21 := by
  have S := (ST.refl P).nn j many
  unfold nwD
  split
  · have S2 := (ST.refl (PR.nwl (k := k) h0 h1 7 0 _ S.P)).go
    have a := S2.n
    rw [nwl_n j k h0] at a
    exact Int.le_trans S.n a
  · exact S.go.n
theorem nw_e (P : PR D) (j : Nat) (many k : Int) (h0 : j ≠ 0) (h : nwD j many k D 0 25 = 0) : D 0 25 = 0 := ((ST.refl P).nn j many).e (nw_25 j many k h0 h)
theorem lk_W (P : PR D) : ST (lkW D) (lkC D) := by
  have PW : PR (lkW D) := ((P.l1 _ _).go).nw _ _ _ (by decide) (by decide)
  exact ((((((ST.refl PW).tE _ _).go).tE _ _).go).tE _ _).go
theorem lkW_f (P : PR D) {e : Int} (h : e < 21 ∨ 26 < e) : lkW D 0 e = D 0 e := by
  unfold lkW
  rw [nw_0 _ _ _ _ (by decide) h, go_0 _ h, l1_0 _ _ _ h]
theorem lkW_r (P : PR D) {j : Nat} (h : j ≠ 0) (h1 : j ≠ 11) : lkW D j = D j := by
  unfold lkW
  rw [nw_row _ _ _ _ h h1, go_row _ h, l1_row _ _ _ h]
theorem lk_ok (P : PR D) (h : lkC D 0 25 = 0) : D 0 31 ≠ 8 := by
  have h1 : lkW D 0 25 = 0 := (lk_W P).e h
  have h2 := nw_e (P.l1 31 8).go 11 _ _ (by decide) h1
  exact l1_ok h2 P (ST.refl (P.l1 31 8).go)
theorem lk_KP (P : PR D) (K : KP D) : KP (lkW D) := by
  refine ⟨by rw [lkW_f P (by decide)]; exact K.1, by rw [lkW_f P (by decide)]; exact K.2.1, ?_, by rw [lkW_r P (by decide) (by decide)]; exact K.2.2.2⟩
  unfold lkW
  refine NB.nw ((P.l1 _ _).go) 11 _ _ (by decide) (by decide) ?_
  rw [go_row _ (by decide), l1_row _ _ _ (by decide)]
  exact K.2.2.1
theorem RI.lk (I : RI D) (P : PR D) : RI (lkD D) := by
  have S := lk_W P
  have KC := S.K (lk_KP P I.K)
  have f : ∀ e, e < 21 ∨ 26 < e → lkC D 0 e = D 0 e := fun e h => (S.f h).trans (lkW_f P h)
  have r : ∀ j, j ≠ 0 → j ≠ 11 → lkC D j = D j := fun j h h1 => (S.r h).trans (lkW_r P h h1)
  have IC : RI (lkC D) := I.of KC (fun j a b => r j (by omega) (by omega)) (by rw [f _ (by decide)]; exact Int.le_refl _) (by rw [f _ (by decide)]; exact Int.le_refl _) (f _ (by decide)) (f _ (by decide))
  unfold lkD
  split
  · rename_i h
    have h8 := lk_ok P h
    have k1 := I.K.1
    have PW : PR (lkW D) := ((P.l1 _ _).go).nw _ _ _ (by decide) (by decide)
    have SA : ST (lkW D) (lkA D) := ((ST.refl PW).tE _ _).go
    have SB : ST (lkA D) (lkB D) := ((ST.refl SA.P).tE _ _).go
    have SC : ST (lkB D) (lkC D) := ((ST.refl SB.P).tE _ _).go
    have c3 : tkE (lkB D) 1 200 0 25 = 0 := (go_25 _).symm.trans (h)
    have c2 : tkE (lkA D) 0 20 0 25 = 0 := (go_25 _).symm.trans (SC.e h)
    have c1 : tkE (lkW D) 1 99 0 25 = 0 := (go_25 _).symm.trans (SB.e (SC.e h))
    have v1 := tE_ok c1
    have v2 := tE_ok c2
    have v3 := tE_ok c3
    rw [if_pos (by omega)]
    generalize tvV (lkW D) 1 99 = x1 at v1 ⊢
    generalize tvV (lkA D) 0 20 = x2 at v2 ⊢
    generalize tvV (lkB D) 1 200 = x3 at v3 ⊢
    obtain ⟨c1, c2, c3, c4, c5, c6, c7⟩ := IC
    have e31 : lkC D 0 31 = D 0 31 := f _ (by decide)
    refine ⟨?_, ?_, ?_, ?_, ?_, ?_, ?_⟩
    · refine ⟨by rw [dst_eq]; omega, by rw [dst_ne (by decide), dst_row (by decide), dst_row (by decide), dst_row (by decide)]; exact c1.2.1, ?_, ?_⟩
      · rw [dst_row (by decide), dst_row (by decide), dst_row (by decide), dst_row (by decide)]; exact c1.2.2.1
      · rw [dst_row (by decide), dst_row (by decide), dst_row (by decide), dst_row (by decide)]; exact c1.2.2.2
    · rw [dst_ne (by decide), dst_row (by decide), dst_row (by decide), dst_row (by decide)]; exact c2
    · rw [dst_row (by decide), dst_row (by decide), dst_row (by decide), dst_row (by decide)]; exact c3
    · intro k k0 k8
      rw [dst_row (by decide)]
      have := c4 k k0 k8
      by_cases q : k = D 0 31
      · have z := dst3 (lkC D) 13 (3 * D 0 31) x1 x2 x3
        rw [q, z.1, z.2.1, z.2.2]
        omega
      · rw [dst_ne (by omega), dst_ne (by omega), dst_ne (by omega), dst_ne (by omega), dst_ne (by omega), dst_ne (by omega), dst_ne (by omega), dst_ne (by omega), dst_ne (by omega)]
        exact this
    · intro g g0 g1
      refine (c5 g g0 g1).mono ?_ ?_ ?_ ?_ ?_
      · rw [dst_row (by decide), dst_row (by decide), dst_row (by decide), dst_row (by decide)]
      · rw [dst_row (by decide), dst_row (by decide), dst_row (by decide), dst_row (by decide)]
      · intro e _ _
        rw [dst_row (by decide), dst_row (by decide), dst_row (by decide), dst_row (by decide)]
      · rw [dst_eq]; omega
      · rw [dst_ne (by decide), dst_row (by decide), dst_row (by decide), dst_row (by decide)]; exact Int.le_refl _
    · refine c6.mono ?_ ?_ ?_ ?_
      · rw [dst_row (by decide), dst_row (by decide), dst_row (by decide), dst_row (by decide)]
      · rw [dst_ne (by decide), dst_row (by decide), dst_row (by decide), dst_row (by decide)]
      · rw [dst_eq]; omega
      · rw [dst_ne (by decide), dst_row (by decide), dst_row (by decide), dst_row (by decide)]; exact Int.le_refl _
    · rw [dst_ne (by decide), dst_row (by decide), dst_row (by decide), dst_row (by decide), dst_row (by decide), dst_row (by decide), dst_row (by decide), dst_row (by decide)]
      exact c7
  · exact IC
theorem lkD_0 (P : PR D) : (lkD D 0 25 = lkC D 0 25 ∧ lkD D 0 21 = lkC D 0 21) ∧ PR (lkD D) := by
  have S := lk_W P
  unfold lkD
  split
  · refine ⟨⟨?_, ?_⟩, ?_⟩
    · rw [dst_ne (by decide), dst_row (by decide), dst_row (by decide), dst_row (by decide)]
    · rw [dst_ne (by decide), dst_row (by decide), dst_row (by decide), dst_row (by decide)]
    · exact (((S.P.row _ _ (by decide) (by decide)).row _ _ (by decide) (by decide)).row _ _ (by decide) (by decide)).f (by decide)
  · exact ⟨⟨rfl, rfl⟩, S.P⟩
theorem lk_n (P : PR D) : D 0 21 ≤ lkD D 0 21 ∧ PR (lkD D) := by
  have a := (lkD_0 P)
  have b := (lk_W P).n
  have c : (gD (l1D D 31 8)) 0 21 ≤ lkW D 0 21 := nw_n ((P.l1 31 8).go) 11 _ _ (by decide) (by decide)
  have d := (((ST.refl P).l1 31 8).go).n
  exact ⟨by omega, a.2⟩
theorem lp_f (P : PR D) {e : Int} (h : e < 21 ∨ 26 < e) : lpW D 0 e = D 0 e := by
  unfold lpW
  rw [nw_0 _ _ _ _ (by decide) h, go_0 _ h, l1_0 _ _ _ h]
theorem lp_r (P : PR D) {j : Nat} (h : j ≠ 0) (h1 : j ≠ 12) : lpW D j = D j := by
  unfold lpW
  rw [nw_row _ _ _ _ h h1, go_row _ h, l1_row _ _ _ h]
theorem lp_ok (P : PR D) (h : lpW D 0 25 = 0) : D 0 32 ≠ 6 := by
  have h2 := nw_e (P.l1 32 6).go 12 _ _ (by decide) h
  exact l1_ok h2 P (ST.refl (P.l1 32 6).go)
theorem lp_KP (P : PR D) (K : KP D) : KP (lpW D) := by
  refine ⟨by rw [lp_f P (by decide)]; exact K.1, by rw [lp_f P (by decide)]; exact K.2.1, by rw [lp_r P (by decide) (by decide)]; exact K.2.2.1, ?_⟩
  unfold lpW
  refine NB.nw ((P.l1 _ _).go) 12 _ _ (by decide) (by decide) ?_
  rw [go_row _ (by decide), l1_row _ _ _ (by decide)]
  exact K.2.2.2
theorem RI.lp (I : RI D) (P : PR D) : RI (lpD D) := by
  have KW := lp_KP P I.K
  have f : ∀ e, e < 21 ∨ 26 < e → lpW D 0 e = D 0 e := fun e h => lp_f P h
  have r : ∀ j, j ≠ 0 → j ≠ 12 → lpW D j = D j := fun j h h1 => lp_r P h h1
  have k2 := I.K.2.1
  have h8 : lpW D 0 25 = 0 → D 0 32 ≠ 6 := lp_ok P
  have e32 := f 32 (by decide)
  have e31 := f 31 (by decide)
  unfold lpD
  refine I.of ⟨?_, ?_, ?_, ?_⟩ (fun j a b => ?_) ?_ ?_ ?_ ?_
  · rw [dst_ne (by decide)]; exact KW.1
  · rw [dst_eq]; split <;> omega
  · rw [dst_row (by decide)]; exact KW.2.2.1
  · rw [dst_row (by decide)]; exact KW.2.2.2
  · rw [dst_row (by omega), r j (by omega) (by omega)]
  · rw [dst_ne (by decide), e31]; exact Int.le_refl _
  · rw [dst_eq]; split <;> omega
  · rw [dst_ne (by decide), f _ (by decide)]
  · rw [dst_ne (by decide), f _ (by decide)]
theorem lp_n (P : PR D) : D 0 21 ≤ lpD D 0 21 ∧ PR (lpD D) := by
  have PW : PR (lpW D) := ((P.l1 _ _).go).nw _ _ _ (by decide) (by decide)
  have c : (gD (l1D D 32 6)) 0 21 ≤ lpW D 0 21 := nw_n ((P.l1 32 6).go) 12 _ _ (by decide) (by decide)
  have d := (((ST.refl P).l1 32 6).go).n
  unfold lpD
  exact ⟨by rw [dst_ne (by decide)]; omega, PW.f (by decide)⟩
/-! hide, send -/
theorem lh_n (P : PR D) : D 0 21 ≤ lhD D 0 21 ∧ PR (lhD D) := by
  have S := ST_lhE P
  have PF : PR (lhF D) ∧ lhF D 0 21 = lhE D 0 21 := by
    unfold lhF
    split
    · exact ⟨S.P.row _ _ (by decide) (by decide), by rw [dst_row (by decide)]⟩
    · exact ⟨S.P, rfl⟩
  have T := (ST.refl PF.1).go
  have a := T.n
  have b := S.n
  have e := PF.2
  unfold lhD
  exact ⟨by omega, T.P⟩
theorem RI.lh (I : RI D) (P : PR D) : RI (lhD D) := by
  have S := ST_lhE P
  have J := I.st S
  have PF : PR (lhF D) := by
    unfold lhF
    split
    · exact S.P.row _ _ (by decide) (by decide)
    · exact S.P
  have JF : RI (lhF D) := by
    unfold lhF
    split
    · obtain ⟨c1, c2, c3, c4, c5, c6, c7⟩ := J
      refine ⟨c1.keep (by rw [dst_row (by decide)]) (by rw [dst_row (by decide)]) (dst_row (by decide)) (dst_row (by decide)), by rw [dst_row (by decide)]; exact c2, fun p a b => ?_, c4.of (dst_row (by decide)), fun g g0 g1 => (c5 g g0 g1).mono (by rw [dst_row (by decide)]) (by rw [dst_row (by decide)]) (fun e _ _ => by rw [dst_row (by decide)]) (by rw [dst_row (by decide)]; exact Int.le_refl _) (by rw [dst_row (by decide)]; exact Int.le_refl _), c6.mono (dst_row (by decide)) (by rw [dst_row (by decide)]) (by rw [dst_row (by decide)]; exact Int.le_refl _) (by rw [dst_row (by decide)]; exact Int.le_refl _), by rw [dst_row (by decide), dst_row (by decide)]; exact c7⟩
      by_cases q : p = lhp D
      · rw [q, dst_eq]; exact bor_InR _ _
      · rw [dst_ne q]; exact c3 p a b
    · exact J
  unfold lhD
  exact JF.st (ST.refl PF).go
theorem ls_0 (P : PR D) : lsD D 0 25 = lsE D 0 25 ∧ D 0 21 ≤ lsD D 0 21 ∧ PR (lsD D) := by
  have S := ST_lsE P
  have n := S.n
  unfold lsD
  split
  · refine ⟨?_, ?_, ?_⟩
    · rw [dst_ne (by decide), dst_row (by decide), dst_row (by decide), dst_row (by decide)]
    · rw [dst_ne (by decide), dst_row (by decide), dst_row (by decide), dst_row (by decide)]; exact n
    · exact (((S.P.row _ _ (by decide) (by decide)).row _ _ (by decide) (by decide)).row _ _ (by decide) (by decide)).f (by decide)
  · exact ⟨rfl, n, S.P⟩
/-- no error in a send line: what it says -/
theorem ls_ok (P : PR D) (K : KP D) (h : lsE D 0 25 = 0) : (0 ≤ lsp D ∧ lsp D < D 0 32) ∧ (0 ≤ lsk D ∧ lsk D < D 0 31) ∧ (0 ≤ tvV (lsC D) 0 999 ∧ tvV (lsC D) 0 999 ≤ 999) ∧ D 0 34 ≠ 12 := by
  have SA : ST D (lsA D) := ((ST.refl P).l1 _ _).go
  have SB : ST (lsA D) (lsB D) := ((ST.refl SA.P).nh _ _).go
  have SC : ST (lsB D) (lsC D) := ((ST.refl SB.P).nh _ _).go
  have c3 : tkE (lsC D) 0 999 0 25 = 0 := (go_25 _).symm.trans (h)
  have hC : lsC D 0 25 = 0 := ((ST.refl SC.P).tE 0 999).e c3
  have c2 : nhD 11 (D 0 31) (lsB D) 0 25 = 0 := (go_25 _).symm.trans (hC)
  have hB : lsB D 0 25 = 0 := SC.e hC
  have c1 : nhD 12 (D 0 32) (lsA D) 0 25 = 0 := (go_25 _).symm.trans (hB)
  have v1 := nh_ok K.2.1.1 c1
  have v2 := nh_ok K.1.1 c2
  have v3 := tE_ok c3
  refine ⟨⟨v1.2.2.1, v1.2.2.2.1⟩, ⟨v2.2.2.1, v2.2.2.2.1⟩, ?_, ls_room h⟩
  omega
theorem RI.ls (I : RI D) (P : PR D) : RI (lsD D) := by
  have S := ST_lsE P
  have J := I.st S
  unfold lsD
  split
  · rename_i h
    obtain ⟨v1, v2, v3, v4⟩ := ls_ok P I.K h
    have e34 : lsE D 0 34 = D 0 34 := S.f (by decide)
    have e31 : lsE D 0 31 = D 0 31 := S.f (by decide)
    have e32 : lsE D 0 32 = D 0 32 := S.f (by decide)
    generalize lsp D = x1 at v1 ⊢
    generalize lsk D = x2 at v2 ⊢
    generalize tvV (lsC D) 0 999 = x3 at v3 ⊢
    obtain ⟨c1, c2, c3, c4, c5, c6, c7⟩ := J
    refine ⟨?_, ?_, ?_, ?_, ?_, ?_, ?_⟩
    · refine c1.keep ?_ ?_ ?_ ?_
      · rw [dst_ne (by decide), dst_row (by decide), dst_row (by decide), dst_row (by decide)]
      · rw [dst_ne (by decide), dst_row (by decide), dst_row (by decide), dst_row (by decide)]
      · rw [dst_row (by decide), dst_row (by decide), dst_row (by decide), dst_row (by decide)]
      · rw [dst_row (by decide), dst_row (by decide), dst_row (by decide), dst_row (by decide)]
    · rw [dst_eq]; omega
    · rw [dst_row (by decide), dst_row (by decide), dst_row (by decide), dst_row (by decide)]; exact c3
    · refine c4.of ?_
      rw [dst_row (by decide), dst_row (by decide), dst_row (by decide), dst_row (by decide)]
    · intro g g0 g1
      refine (c5 g g0 g1).mono ?_ ?_ ?_ ?_ ?_
      · rw [dst_row (by decide), dst_row (by decide), dst_row (by decide), dst_row (by decide)]
      · rw [dst_row (by decide), dst_row (by decide), dst_row (by decide), dst_row (by decide)]
      · intro e _ _
        rw [dst_row (by decide), dst_row (by decide), dst_row (by decide), dst_row (by decide)]
      · rw [dst_ne (by decide), dst_row (by decide), dst_row (by decide), dst_row (by decide)]; exact Int.le_refl _
      · rw [dst_ne (by decide), dst_row (by decide), dst_row (by decide), dst_row (by decide)]; exact Int.le_refl _
    · intro i i0 i1
      rw [dst_eq] at i1
      have e0 : ∀ e, e ≠ 34 → dst (dst (dst (dst (lsE D) 18 (3 * D 0 34) x1) 18 (3 * D 0 34 + 1) x2) 18 (3 * D 0 34 + 2) x3) 0 34 (D 0 34 + 1) 0 e = lsE D 0 e := fun e he => by
        rw [dst_ne he, dst_row (by decide), dst_row (by decide), dst_row (by decide)]
      rw [e0 31 (by decide), e0 32 (by decide), dst_row (by decide)]
      by_cases q : i = D 0 34
      · have z := dst3 (lsE D) 18 (3 * D 0 34) x1 x2 x3
        rw [q, z.1, z.2.1, z.2.2]
        omega
      · rw [dst_ne (by omega), dst_ne (by omega), dst_ne (by omega), dst_ne (by omega), dst_ne (by omega), dst_ne (by omega), dst_ne (by omega), dst_ne (by omega), dst_ne (by omega)]
        exact c6 i i0 (by omega)
    · rw [dst_ne (by decide), dst_row (by decide), dst_row (by decide), dst_row (by decide), dst_row (by decide), dst_row (by decide), dst_row (by decide), dst_row (by decide)]
      exact c7
  · exact J
/-! acts, handlers -/
/-- no error in an act: what it says -/
theorem la_ok (P : PR D) (K : KP D) {g : Int} (h : laG D g 0 25 = 0) : (0 ≤ aht D ∧ aht D ≤ 3) ∧ (0 ≤ lak D g ∧ lak D g < D 0 31) ∧ (-1 ≤ lap D g ∧ lap D g < 6) ∧ (-1 ≤ lav D g ∧ lav D g ≤ 999) ∧ (aht D = 0 → (0 ≤ lap D g ∧ lap D g < D 0 32) ∧ 0 ≤ lav D g) := by
  have SB := ST_laB P g
  have SC : ST (laB D g) (laC D g) := ((ST.refl SB.P).nh _ _).go
  have SE : ST (laC D g) (laE D g) := by
    unfold laE
    split
    · exact ((ST.refl SC.P).nh _ _).go
    · exact ST.refl SC.P
  have SG : ST (laE D g) (laG D g) := by
    unfold laG
    split
    · exact ((ST.refl SE.P).tE _ _).go
    · exact ST.refl SE.P
  have hE := SG.e h
  have hC := SE.e hE
  have c1 : nhD 11 (D 0 31) (laB D g) 0 25 = 0 := (go_25 _).symm.trans (hC)
  have v1 := nh_ok K.1.1 c1
  have r := (la_room h).1
  have ra : -1 ≤ aht D ∧ aht D ≤ 3 := by unfold aht; (repeat' split) <;> omega
  have k2 := K.2.1
  by_cases q : aht D = 0
  · have c2 : nhD 12 (D 0 32) (laC D g) 0 25 = 0 := by
      refine (go_25 _).symm.trans ?_
      have := hE
      unfold laE at this
      rw [if_pos q] at this
      exact this
    have c3 : tkE (laE D g) 0 999 0 25 = 0 := by
      refine (go_25 _).symm.trans ?_
      have := h
      unfold laG at this
      rw [if_pos q] at this
      exact this
    have v2 := nh_ok K.2.1.1 c2
    have v3 := tE_ok c3
    have e1 : lap D g = nhV 12 (D 0 32) (laC D g) := by unfold lap; rw [if_pos q]
    have e2 : lav D g = tvV (laE D g) 0 999 := by unfold lav; rw [if_pos q]
    have e3 : lak D g = nhV 11 (D 0 31) (laB D g) := rfl
    rw [e1, e2, e3]
    omega
  · have e1 : lap D g = -1 := by unfold lap; rw [if_neg q]
    have e2 : lav D g = -1 := by unfold lav; rw [if_neg q]
    have e3 : lak D g = nhV 11 (D 0 31) (laB D g) := rfl
    rw [e1, e2, e3]
    omega
theorem la_15 (P : PR D) (g : Int) : laD D g 15 = D 15 := la_row P g (by decide) (by decide) (by decide)
theorem RI.la (I : RI D) (P : PR D) {g : Int} (hg : 0 ≤ g ∧ g < 48) (h5 : 0 < D 15 g) : RI (laD D g) := by
  have S := ST_laG P g
  have J := I.st S
  unfold laD
  split
  · rename_i h
    obtain ⟨v1, v2, v3, v4, v5⟩ := la_ok P I.K h
    have h4 := (la_room h).2
    have e31 : laG D g 0 31 = D 0 31 := S.f (by decide)
    have e32 : laG D g 0 32 = D 0 32 := S.f (by decide)
    have e15 : laG D g 15 = D 15 := S.r (by decide)
    have e16 : laG D g 16 = D 16 := S.r (by decide)
    have a0 := I.a hg.1 hg.2
    generalize aht D = x1 at v1 v5 ⊢
    generalize lak D g = x2 at v2 ⊢
    generalize lap D g = x3 at v3 v5 ⊢
    generalize lav D g = x4 at v4 v5 ⊢
    generalize hG : laG D g = G at J e31 e32 e15 e16 ⊢
    obtain ⟨c1, c2, c3, c4, c5, c6, c7⟩ := J
    generalize hX : dst (dst (dst (dst (dst G 17 (4 * (4 * g + D 16 g)) x1) 17 (4 * (4 * g + D 16 g) + 1) x2) 17 (4 * (4 * g + D 16 g) + 2) x3) 17 (4 * (4 * g + D 16 g) + 3) x4) 16 g (D 16 g + 1) = X
    have r : ∀ j, j ≠ 16 → j ≠ 17 → X j = G j := fun j a b => by rw [← hX, dst_row a, dst_row b, dst_row b, dst_row b, dst_row b]
    have r16 : ∀ e, e ≠ g → X 16 e = G 16 e := fun e he => by rw [← hX, dst_ne he, dst_row (by decide), dst_row (by decide), dst_row (by decide), dst_row (by decide)]
    have r16g : X 16 g = D 16 g + 1 := by rw [← hX, dst_eq]
    have r17 : ∀ e, ¬ (4 * (4 * g + D 16 g) ≤ e ∧ e < 4 * (4 * g + D 16 g) + 4) → X 17 e = G 17 e := fun e he => by
      rw [← hX, dst_row (by decide), dst_ne (by omega), dst_ne (by omega), dst_ne (by omega), dst_ne (by omega)]
    have w0 : X 17 (4 * (4 * g + D 16 g)) = x1 := by rw [← hX, dst_row (by decide), dst_ne (by omega), dst_ne (by omega), dst_ne (by omega), dst_eq]
    have w1 : X 17 (4 * (4 * g + D 16 g) + 1) = x2 := by rw [← hX, dst_row (by decide), dst_ne (by omega), dst_ne (by omega), dst_eq]
    have w2 : X 17 (4 * (4 * g + D 16 g) + 2) = x3 := by rw [← hX, dst_row (by decide), dst_ne (by omega), dst_eq]
    have w3 : X 17 (4 * (4 * g + D 16 g) + 3) = x4 := by rw [← hX, dst_row (by decide), dst_eq]
    clear hX hG
    have x0 : X 0 = G 0 := r 0 (by decide) (by decide)
    refine ⟨c1.keep (by rw [x0]) (by rw [x0]) (r _ (by decide) (by decide)) (r _ (by decide) (by decide)), by rw [x0]; exact c2, by rw [r 14 (by decide) (by decide)]; exact c3, c4.of (r _ (by decide) (by decide)), fun q q0 q1 => ?_, c6.mono (r _ (by decide) (by decide)) (by rw [x0]) (by rw [x0]; exact Int.le_refl _) (by rw [x0]; exact Int.le_refl _), by rw [x0, r 15 (by decide) (by decide)]; exact c7⟩
    by_cases hq : q = g
    · subst hq
      obtain ⟨b1, b2, b3, b4, b5⟩ := c5 q q0 q1
      refine ⟨by rw [r 15 (by decide) (by decide)]; exact b1, by rw [r16g]; have := a0.2.1; omega, fun z => ?_, fun z => ?_, fun i i0 i1 => ?_⟩
      · rw [r 15 (by decide) (by decide), e15] at z; omega
      · rw [r 15 (by decide) (by decide)] at z; rw [x0]; exact b4 z
      · rw [r16g] at i1
        by_cases hi : i = D 16 q
        · subst hi
          unfold AO
          rw [w0, w1, w2, w3, x0, e31, e32]
          exact ⟨v1, v2, v3, v4, v5⟩
        · refine (b5 i i0 (by rw [e16]; omega)).mono (fun w w0 w1 => r17 _ (by omega)) (by rw [x0]; exact Int.le_refl _) (by rw [x0]; exact Int.le_refl _)
    · refine (c5 q q0 q1).mono (by rw [r 15 (by decide) (by decide)]) (r16 q hq) (fun e a b => r17 e ?_) (by rw [x0]; exact Int.le_refl _) (by rw [x0]; exact Int.le_refl _)
      have := a0.2.1
      omega
  · exact J
theorem lal_all (g : Int) (hg : 0 ≤ g ∧ g < 48) : ∀ (n : Nat) (D : Nat → Int → Int), PR D → RI D → 0 < D 15 g → RI (lal g n D) ∧ PR (lal g n D) ∧ D 0 21 ≤ lal g n D 0 21
  | 0, D, P, I, _ => ⟨I, P, Int.le_refl _⟩
  | n + 1, D, P, I, h => by
    rw [lal]
    split
    · have := lal_all g hg n (laD D g) (P.la g) (I.la P hg h) (by rw [la_15 P]; exact h)
      have a : D 0 21 ≤ laD D g 0 21 := by rw [la_0]; exact (ST_laG P g).n
      exact ⟨this.1, this.2.1, Int.le_trans a this.2.2⟩
    · exact ⟨I, P, Int.le_refl _⟩
theorem ln_ok (P : PR D) (K : KP D) (h : lnT D 0 25 = 0) : lhC D 0 25 = 0 ∧ D 15 (lng D) ≤ 0 ∧ (1 ≤ tvV (lnF D) 1 20 ∧ tvV (lnF D) 1 20 ≤ 20) := by
  have SE := ST_lnE P
  have SF : ST (lnE D) (lnF D) := (ST.refl SE.P).go
  have c3 : tkE (lnF D) 1 20 0 25 = 0 := (go_25 _).symm.trans (h)
  have hF : lnF D 0 25 = 0 := ((ST.refl SF.P).tE 1 20).e c3
  have hE : lnE D 0 25 = 0 := SF.e hF
  have v3 := tE_ok c3
  have SC := ST_lhC P
  by_cases q : lhC D 0 25 = 0 ∧ 0 < lhC D 15 (lng D)
  · rw [lnE, if_pos q] at hE
    exact absurd hE (fl_25 (lhC D) (w := 3) (by decide))
  · rw [lnE, if_neg q] at hE
    refine ⟨hE, ?_, ?_⟩
    · rw [SC.r (j := 15) (by decide)] at q
      omega
    · omega
theorem lnR_rows (P : PR D) : lnR D 16 = D 16 := by
  unfold lnR
  rw [dst_row (by decide), dst_row (by decide), (ST_lnT P).r (by decide)]
theorem RI.lnR (I : RI D) (P : PR D) (h : lnT D 0 25 = 0) : RI (Jvm.Pilot.CFadingSignalsLaw_law_r4563_1f4246.lnR D) ∧ 0 < Jvm.Pilot.CFadingSignalsLaw_law_r4563_1f4246.lnR D 15 (lng D) ∧ D 16 (lng D) = 0 := by
  have S := ST_lnT P
  have J := I.st S
  obtain ⟨hC, h15, v⟩ := ln_ok P I.K h
  obtain ⟨hp, hk⟩ := lh_ok P I.K hC
  have rp := lhp_rng I.K
  have rk := lhk_rng I.K
  have e31 : lnT D 0 31 = D 0 31 := S.f (by decide)
  have e32 : lnT D 0 32 = D 0 32 := S.f (by decide)
  have e33 : lnT D 0 33 = D 0 33 := S.f (by decide)
  have e15 : lnT D 15 = D 15 := S.r (by decide)
  have e16 : lnT D 16 = D 16 := S.r (by decide)
  have hg : 0 ≤ lng D ∧ lng D < 48 ∧ lng D / 8 < D 0 32 ∧ lng D % 8 < D 0 31 := by unfold lng; omega
  have a0 := I.a hg.1 hg.2.1
  have z15 : D 15 (lng D) = 0 := by have := a0.1; omega
  have z16 : D 16 (lng D) = 0 := a0.2.2.1 z15
  unfold Jvm.Pilot.CFadingSignalsLaw_law_r4563_1f4246.lnR
  generalize tvV (lnF D) 1 20 = x at v ⊢
  generalize lng D = g at hg z15 z16 a0 ⊢
  generalize lnT D = G at S J e31 e32 e33 e15 e16 ⊢
  obtain ⟨c1, c2, c3, c4, c5, c6, c7⟩ := J
  have r : ∀ j, j ≠ 0 → j ≠ 15 → dst (dst G 15 g x) 0 33 (D 0 33 + 1) j = G j := fun j a b => by rw [dst_row a, dst_row b]
  have f : ∀ e, e ≠ 33 → dst (dst G 15 g x) 0 33 (D 0 33 + 1) 0 e = G 0 e := fun e a => by rw [dst_ne a, dst_row (by decide)]
  have r15 : dst (dst G 15 g x) 0 33 (D 0 33 + 1) 15 = ups (G 15) g x := by rw [dst_row (by decide)]; exact if_pos rfl
  refine ⟨⟨c1.keep (f _ (by decide)) (f _ (by decide)) (r _ (by decide) (by decide)) (r _ (by decide) (by decide)), by rw [f _ (by decide)]; exact c2, by rw [r 14 (by decide) (by decide)]; exact c3, c4.of (r _ (by decide) (by decide)), fun q q0 q1 => ?_, c6.mono (r _ (by decide) (by decide)) (f _ (by decide)) (by rw [f _ (by decide)]; exact Int.le_refl _) (by rw [f _ (by decide)]; exact Int.le_refl _), ?_⟩, ?_, z16⟩
  · by_cases hq : q = g
    · subst hq
      refine ⟨by rw [r15, ups_eq]; omega, by rw [r 16 (by decide) (by decide), e16]; omega, fun z => ?_, fun z => ?_, fun i i0 i1 => ?_⟩
      · rw [r15, ups_eq] at z; omega
      · rw [f 31 (by decide), f 32 (by decide), e31, e32]; exact hg.2.2
      · rw [r 16 (by decide) (by decide), e16] at i1; omega
    · refine (c5 q q0 q1).mono (by rw [r15, ups_ne hq]) (by rw [r 16 (by decide) (by decide)]) (fun e _ _ => by rw [r 17 (by decide) (by decide)]) (by rw [f _ (by decide)]; exact Int.le_refl _) (by rw [f _ (by decide)]; exact Int.le_refl _)
  · rw [dst_eq, r15, e15, hcn_up hg.1 (by omega) (by omega) (by have := hg.2.1; omega), ← e33, c7, e15]
  · rw [r15, ups_eq]; omega
theorem ln_all (P : PR D) (I : RI D) : RI (lnD D) ∧ PR (lnD D) ∧ D 0 21 ≤ lnD D 0 21 := by
  have S := ST_lnT P
  unfold lnD
  split
  · rename_i h
    obtain ⟨J, h5, _⟩ := I.lnR P h
    have rp := lhp_rng I.K
    have rk := lhk_rng I.K
    have PRr : PR (Jvm.Pilot.CFadingSignalsLaw_law_r4563_1f4246.lnR D) := (S.P.row _ _ (by decide) (by decide)).f (by decide)
    have n : D 0 21 ≤ Jvm.Pilot.CFadingSignalsLaw_law_r4563_1f4246.lnR D 0 21 := by
      show D 0 21 ≤ dst (dst (lnT D) 15 (lng D) (tvV (lnF D) 1 20)) 0 33 (D 0 33 + 1) 0 21
      rw [dst_ne (by decide), dst_row (by decide)]
      exact S.n
    have := lal_all (lng D) (by unfold lng; omega) 5 _ PRr J h5
    exact ⟨this.1, this.2.1, Int.le_trans n this.2.2⟩
  · exact ⟨I.st S, S.P, S.n⟩
theorem li_all (P : PR D) (I : RI D) : RI (liD D) ∧ PR (liD D) ∧ D 0 21 ≤ liD D 0 21 := by
  unfold liD
  split
  · exact ⟨I.lk P, (lk_n P).2, (lk_n P).1⟩
  · split
    · exact ⟨I.lp P, (lp_n P).2, (lp_n P).1⟩
    · split
      · exact ln_all P I
      · split
        · exact ⟨I.lh P, (lh_n P).2, (lh_n P).1⟩
        · split
          · exact ⟨I.ls P, (ls_0 P).2.2, (ls_0 P).2.1⟩
          · have S := (ST.refl P).fl (w := 1) (by decide)
            exact ⟨I.st S, S.P, S.n⟩
end RI
