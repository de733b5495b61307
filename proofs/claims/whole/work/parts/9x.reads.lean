/-! the reading's start; the lines go on; what the hall becomes -/
def RZ (D : Nat → Int → Int) (a c : Int) : Prop := (0 ≤ D 0 20 ∧ D 0 20 ≤ 700) ∧ D 0 21 = 0 ∧ D 0 25 = 0 ∧ D 0 26 = -1 ∧ (D 0 31 = 0 ∧ D 0 32 = 0 ∧ D 0 33 = 0 ∧ D 0 34 = 0) ∧ BY D ∧ NB (D 11) ∧ NB (D 12) ∧ RIk D ∧ (∀ e, 0 ≤ e → e < a → D 15 e = 0 ∧ D 16 e = 0) ∧ ∀ e, 0 ≤ e → e < c → D 14 e = 0
section RZ
variable {D D' : Nat → Int → Int} {x y : Int}
theorem RZ.start {n : Int} (hn : 0 ≤ n ∧ n ≤ 700) (hB : BY D) (h1 : NB (D 11)) (h2 : NB (D 12)) (hk : RIk D) : RZ (rd0 D n) 0 0 := by
  have r : ∀ j, j ≠ 0 → rd0 D n j = D j := fun j h => by
    unfold rd0
    rw [dst_row h, dst_row h, dst_row h, dst_row h, dst_row h, dst_row h, dst_row h, dst_row h]
  have f20 : rd0 D n 0 20 = n := rfl
  have f21 : rd0 D n 0 21 = 0 := rfl
  have f25 : rd0 D n 0 25 = 0 := rfl
  have f26 : rd0 D n 0 26 = -1 := rfl
  refine ⟨by rw [f20]; exact hn, f21, f25, f26, ⟨rfl, rfl, rfl, rfl⟩, hB.of (r _ (by decide)), by rw [r _ (by decide)]; exact h1, by rw [r _ (by decide)]; exact h2, hk.of (r _ (by decide)), fun e _ _ => by omega, fun e _ _ => by omega⟩
theorem RZ.na (Z : RZ D x y) : RZ (dst (dst D 15 x 0) 16 x 0) (x + 1) y := by
  obtain ⟨z1, z2, z3, z4, z5, z6, z7, z8, z9, z10, z11⟩ := Z
  have r : ∀ j, j ≠ 15 → j ≠ 16 → dst (dst D 15 x 0) 16 x 0 j = D j := fun j h h' => by rw [dst_row h', dst_row h]
  have r0 := r 0 (by decide) (by decide)
  refine ⟨by rw [r0]; exact z1, by rw [r0]; exact z2, by rw [r0]; exact z3, by rw [r0]; exact z4, by rw [r0]; exact z5, z6.of (r _ (by decide) (by decide)), by rw [r _ (by decide) (by decide)]; exact z7, by rw [r _ (by decide) (by decide)]; exact z8, z9.of (r _ (by decide) (by decide)), fun e h0 h1 => ?_, by rw [r 14 (by decide) (by decide)]; exact z11⟩
  by_cases q : e = x
  · rw [q, dst_row (by decide), dst_eq, dst_eq]; exact ⟨rfl, rfl⟩
  · rw [dst_row (by decide), dst_ne q, dst_ne q, dst_row (by decide)]; exact z10 e h0 (by omega)
theorem RZ.nc (Z : RZ D x y) : RZ (dst D 14 y 0) x (y + 1) := by
  obtain ⟨z1, z2, z3, z4, z5, z6, z7, z8, z9, z10, z11⟩ := Z
  have r : ∀ j, j ≠ 14 → dst D 14 y 0 j = D j := fun j h => dst_row h
  have r0 := r 0 (by decide)
  refine ⟨by rw [r0]; exact z1, by rw [r0]; exact z2, by rw [r0]; exact z3, by rw [r0]; exact z4, by rw [r0]; exact z5, z6.of (r _ (by decide)), by rw [r _ (by decide)]; exact z7, by rw [r _ (by decide)]; exact z8, z9.of (r _ (by decide)), by rw [r 15 (by decide), r 16 (by decide)]; exact z10, fun e h0 h1 => ?_⟩
  by_cases q : e = y
  · rw [q, dst_eq]
  · rw [dst_ne q]; exact z11 e h0 (by omega)
theorem RZ.h21 (Z : RZ D x y) : 0 ≤ D 0 21 ∧ D 0 21 ≤ D 0 20 := by
  have := Z.1
  have := Z.2.1
  omega
theorem RZ.B (Z : RZ D x y) : BY D := Z.2.2.2.2.2.1
theorem RZ.P (Z : RZ D x y) : PR (tokD D) := by
  have e : tokD D = tokD (dst (dst D 0 22 0) 0 23 0) := by
    have b : ∀ k, bt (dst (dst D 0 22 0) 0 23 0) k = bt D k := fun k => rfl
    have s1 : ∀ (n : Nat) (p : Int), skl (dst (dst D 0 22 0) 0 23 0) n p = skl D n p := by
      intro n
      induction n with
      | zero => intro p; rfl
      | succ n ih => intro p; show (if bt D p = 32 then skl (dst (dst D 0 22 0) 0 23 0) n (p + 1) else p) = _; rw [ih]; rfl
    have s2 : ∀ (n : Nat) (p : Int), ltl (dst (dst D 0 22 0) 0 23 0) n p = ltl D n p := by
      intro n
      induction n with
      | zero => intro p; rfl
      | succ n ih => intro p; show (if isL (bt D p) then ltl (dst (dst D 0 22 0) 0 23 0) n (p + 1) else p) = _; rw [ih]; rfl
    have s3 : ∀ (n : Nat) (p : Int), dgn (dst (dst D 0 22 0) 0 23 0) n p = dgn D n p := by
      intro n
      induction n with
      | zero => intro p; rfl
      | succ n ih => intro p; show (if isD (bt D p) then dgn (dst (dst D 0 22 0) 0 23 0) n (p + 1) else p) = _; rw [ih]; rfl
    have s4 : ∀ (fr : Int) (n : Nat) (p v : Int), dgv (dst (dst D 0 22 0) 0 23 0) fr n p v = dgv D fr n p v := by
      intro fr n
      induction n with
      | zero => intro p v; rfl
      | succ n ih => intro p v; show (if isD (bt D p) then dgv (dst (dst D 0 22 0) 0 23 0) fr n (p + 1) _ else v) = _; rw [ih]; rfl
    have k : tkP (dst (dst D 0 22 0) 0 23 0) = tkP D := s1 _ _
    have n : ∀ p, tkN (dst (dst D 0 22 0) 0 23 0) p = tkN D p := fun p => by unfold tkN; rw [s2, s3]; rfl
    have t : ∀ p, tkS (dst (dst D 0 22 0) 0 23 0) p = tkS D p := fun p => by unfold tkS; rw [s2, s3]; rfl
    have v : ∀ p x, tkV (dst (dst D 0 22 0) 0 23 0) p x = tkV D p x := fun p x => by unfold tkV; rw [s4]; rfl
    funext j i
    unfold tokD
    rw [k, n, t, v]
    by_cases c0 : j = 0
    · rw [if_pos c0, if_pos c0]
      by_cases c1 : i = 21
      · rw [if_pos c1, if_pos c1]
      · rw [if_neg c1, if_neg c1]
        by_cases c2 : i = 22
        · rw [if_pos c2, if_pos c2]
        · rw [if_neg c2, if_neg c2]
          by_cases c3 : i = 23
          · rw [if_pos c3, if_pos c3]
          · rw [if_neg c3, if_neg c3]
            by_cases c4 : i = 24
            · rw [if_pos c4, if_pos c4]; rfl
            · rw [if_neg c4, if_neg c4, dst_ne c3, dst_ne c2]
    · rw [if_neg c0, if_neg c0, dst_row c0, dst_row c0]
  rw [e]
  obtain ⟨z1, z2, z3, z4, z5, z6, z7, z8, z9, z10, z11⟩ := Z
  refine PR.tok ⟨z1, ?_, ?_, ?_, ?_, ?_, ?_, z6⟩
  · show 0 ≤ (0 : Int) ∧ (0 : Int) ≤ D 0 21 ∧ D 0 21 ≤ D 0 20
    omega
  · show 0 ≤ (0 : Int) ∧ (0 : Int) ≤ 4
    omega
  · intro h
    exact absurd h (by show (0 : Int) ≠ 2; omega)
  · intro h
    exact absurd h (by show (0 : Int) ≠ 1; omega)
  · show 0 ≤ D 0 25 ∧ D 0 25 ≤ 4
    omega
  · show -1 ≤ D 0 26 ∧ D 0 26 ≤ 700
    omega
theorem hcn_zero {f : Int → Int} : ∀ {n : Nat}, (∀ e : Int, 0 ≤ e → e < n → f e = 0) → hcn f n = 0
  | 0, _ => rfl
  | n + 1, h => by
    show hcn f n + (if 0 < f n then 1 else 0) = 0
    rw [hcn_zero (fun e a b => h e a (by omega)), h n (by omega) (by omega)]
    rfl
theorem RZ.I (Z : RZ D 48 6) : RI (tokD D) := by
  obtain ⟨z1, z2, z3, z4, z5, z6, z7, z8, z9, z10, z11⟩ := Z
  have f : ∀ e, e < 21 ∨ 26 < e → tokD D 0 e = D 0 e := fun e h => tok_0 D h
  have r : ∀ j, j ≠ 0 → tokD D j = D j := fun j h => tok_row D h
  obtain ⟨y1, y2, y3, y4⟩ := z5
  refine ⟨⟨by rw [f _ (by decide)]; omega, by rw [f _ (by decide)]; omega, by rw [r _ (by decide)]; exact z7, by rw [r _ (by decide)]; exact z8⟩, by rw [f _ (by decide)]; omega, fun p a b => ?_, z9.of (r _ (by decide)), fun g g0 g1 => ?_, fun i a b => ?_, ?_⟩
  · rw [r _ (by decide), z11 p a b]
    exact ⟨by decide, by decide⟩
  · have := z10 g g0 g1
    have e15 : tokD D 15 g = 0 := by rw [r _ (by decide)]; exact this.1
    have e16 : tokD D 16 g = 0 := by rw [r _ (by decide)]; exact this.2
    exact ⟨by omega, by omega, fun _ => e16, by omega, fun i i0 i1 => by omega⟩
  · rw [f _ (by decide)] at b
    omega
  · rw [f _ (by decide), r _ (by decide), y3, hcn_zero (fun e a b => (z10 e a (by omega)).1)]
theorem RI.f (I : RI D) {e v : Int} (h : e < 31 ∨ 34 < e) : RI (dst D 0 e v) := by
  refine I.of (I.K.keep (dst_ne (by omega)) (dst_ne (by omega)) (dst_row (by decide)) (dst_row (by decide))) (fun j a b => dst_row (by omega)) ?_ ?_ (dst_ne (by omega)) (dst_ne (by omega))
  · rw [dst_ne (by omega)]; exact Int.le_refl _
  · rw [dst_ne (by omega)]; exact Int.le_refl _
/-! the lines go on -/
theorem lal_f (g : Int) {e : Int} (he : e < 21 ∨ 26 < e ∧ e < 31 ∨ 34 < e) : ∀ (n : Nat) (D : Nat → Int → Int), PR D → lal g n D 0 e = D 0 e
  | 0, _, _ => rfl
  | n + 1, D, P => by
    rw [lal]
    split
    · rw [lal_f g he n _ (P.la g), la_0, (ST_laG P g).f (by omega)]
    · rfl
theorem li_f (P : PR D) {e : Int} (he : e < 21 ∨ 26 < e ∧ e < 31 ∨ 34 < e) : liD D 0 e = D 0 e := by
  unfold liD
  split
  · unfold lkD
    split
    · rw [dst_ne (by omega), dst_row (by decide), dst_row (by decide), dst_row (by decide), (lk_W P).f (by omega), lkW_f P (by omega)]
    · rw [(lk_W P).f (by omega), lkW_f P (by omega)]
  · split
    · unfold lpD
      rw [dst_ne (by omega), lp_f P (by omega)]
    · split
      · unfold lnD
        split
        · rw [lal_f (lng D) he 5 (lnR D) (show PR (lnR D) from ((ST_lnT P).P.row _ _ (by decide) (by decide)).f (by decide))]
          unfold lnR
          rw [dst_ne (by omega), dst_row (by decide), (ST_lnT P).f (by omega)]
        · exact (ST_lnT P).f (by omega)
      · split
        · unfold lhD
          have S := ST_lhE P
          rw [go_0 _ (by omega)]
          unfold lhF
          split
          · rw [dst_row (by decide), S.f (by omega)]
          · exact S.f (by omega)
        · split
          · have S := ST_lsE P
            unfold lsD
            split
            · rw [dst_ne (by omega), dst_row (by decide), dst_row (by decide), dst_row (by decide), S.f (by omega)]
            · exact S.f (by omega)
          · exact fl_0 _ _ (by omega) (by omega)
theorem li_20 (P : PR D) : liD D 0 20 = D 0 20 := li_f P (by decide)
theorem wd_1 {w : List Int} (h : wdv D w = 1) : D 0 23 = 1 := by
  unfold wdv at h
  split at h
  · rename_i q; exact q.2.1
  · omega
theorem li_word (h : liD D 0 25 = 0) : D 0 23 = 1 := by
  unfold liD at h
  split at h
  · exact wd_1 (by assumption)
  · split at h
    · exact wd_1 (by assumption)
    · split at h
      · exact wd_1 (by assumption)
      · split at h
        · exact wd_1 (by assumption)
        · split at h
          · exact wd_1 (by assumption)
          · exact absurd h (fl_25 _ (by decide))
/-- a line without an error goes on by a byte at least -/
theorem li_adv (P : PR D) (I : RI D) (h : liD (tokD D) 0 25 = 0) : D 0 21 + 1 ≤ liD (tokD D) 0 21 := by
  have w := li_word h
  have t := tk_le P
  have a := (li_all P.tok (I.st (ST.tok P))).2.2
  rw [tok_21] at a
  rw [tok_23] at w
  have := t.2.2 (by omega)
  omega
theorem PR_rd (C : Nat → Int → Int) (P : PR C) {lo hi e v : Int} (h : e < 20 ∨ 26 < e) : PR (dst (gD (tkE C lo hi)) 0 e v) := ((ST.refl P).tE lo hi).go.P.f h
theorem RI_rd (C : Nat → Int → Int) (P : PR C) (I : RI C) {lo hi e v : Int} (h : e < 31 ∨ 34 < e) : RI (dst (gD (tkE C lo hi)) 0 e v) := (I.st ((ST.refl P).tE lo hi).go).f h
end RZ
def rdF (D : Nat → Int → Int) : Nat → Int → Int := rdZ (rdl 702 (rd4 (rd3 (rd2 (rd1 (rdC (tokD D)))))))
/-! what the hall becomes -/
def rcp (j j2 : Nat) : Nat → Int → (Nat → Int → Int) → Nat → Int → Int
  | 0, _, D => D
  | n + 1, k, D => rcp j j2 n (k + 1) (dst D j k (D j2 k))
def rc2 : Nat → Int → (Nat → Int → Int) → Nat → Int → Int
  | 0, _, D => D
  | n + 1, k, D => rc2 n (k + 1) (dst (dst D 3 k (D 15 k)) 4 k (dst D 3 k (D 15 k) 16 k))
def szl : Nat → Int → (Int → Int) → Int → Int
  | 0, _, s => s
  | n + 1, k, s => szl n (k + 1) (ups s k 0)
def scr (lo : Int) (f : Int → Int) : Nat → Int → (Int → Int) → Int → Int
  | 0, _, s => s
  | n + 1, k, s => scr lo f n (k + 1) (ups s (lo + k) (f k))
def bse (D : Nat → Int → Int) : Nat → Int → (Int → Int) → Int → Int
  | 0, _, s => s
  | n + 1, k, s => bse D n (k + 1) (e_snd D s (D 18 (3 * k)) (D 18 (3 * k + 1)) (D 18 (3 * k + 2)) (-1))
/-- the state ahead of the sends -/
def b7 (D : Nat → Int → Int) (s : Int → Int) : Int → Int := scr 85 (D 14) 6 0 s
def b6 (D : Nat → Int → Int) (s : Int → Int) : Int → Int := b7 D (scr 13 (D 13) 24 0 s)
def b5 (D : Nat → Int → Int) (s : Int → Int) : Int → Int := b6 D (ups (ups (ups s 10 (D 0 27)) 11 (D 0 28)) 12 (D 0 29))
def b4 (D : Nat → Int → Int) (s : Int → Int) : Int → Int := b5 D (szl 861 0 s)
def bd3 (D : Nat → Int → Int) : Nat → Int → Int := rcp 5 17 768 0 D
def bd2 (D : Nat → Int → Int) : Nat → Int → Int := bd3 (rc2 48 0 D)
def bd1 (D : Nat → Int → Int) : Nat → Int → Int := bd2 (rcp 2 12 42 0 D)
def bd0 (D : Nat → Int → Int) : Nat → Int → Int := bd1 (rcp 1 11 56 0 D)
def bcD (D : Nat → Int → Int) : Nat → Int → Int := bd0 (dst (dst (dst (dst D 0 2 (D 0 30)) 0 3 (D 0 31)) 0 4 (D 0 32)) 0 5 (D 0 33))
def bcS (D : Nat → Int → Int) (s : Int → Int) : Int → Int := bse (bcD D) (bcD D 0 34).toNat 0 (b4 (bcD D) s)
/-- all is well for the sends -/
def BOK (D : Nat → Int → Int) (s : Int → Int) : Prop := PIv D ∧ HI (D 0 3) (D 0 4) (D 0 2) 0 s ∧ (0 ≤ D 0 34 ∧ D 0 34 ≤ 12) ∧ ∀ i, 0 ≤ i → i < D 0 34 → (0 ≤ D 18 (3 * i) ∧ D 18 (3 * i) < D 0 4) ∧ (0 ≤ D 18 (3 * i + 1) ∧ D 18 (3 * i + 1) < D 0 3) ∧ (0 ≤ D 18 (3 * i + 2) ∧ D 18 (3 * i + 2) ≤ 999)

/-! the whole reading: what holds behind it -/
/-- the settings stand -/
def RS (D : Nat → Int → Int) : Prop := (1 ≤ D 0 27 ∧ D 0 27 ≤ 4) ∧ (0 ≤ D 0 28 ∧ D 0 28 ≤ 50) ∧ (1 ≤ D 0 29 ∧ D 0 29 ≤ 50) ∧ (1 ≤ D 0 30 ∧ D 0 30 ≤ 12)
section RDD
variable {D : Nat → Int → Int} {n : Int}
theorem rdl_all : ∀ (m : Nat) (D : Nat → Int → Int), PR D → RI D → RI (rdl m D) ∧ PR (rdl m D) ∧ (∀ e, e < 21 ∨ 26 < e ∧ e < 31 ∨ 34 < e → rdl m D 0 e = D 0 e) ∧ (rdl m D 0 25 = 0 → D 0 25 = 0)
  | 0, D, P, I => ⟨I, P, fun _ _ => rfl, id⟩
  | m + 1, D, P, I => by
    rw [rdl]
    split
    · rename_i q
      have IT := I.st (ST.tok P)
      have a := li_all P.tok IT
      have b := rdl_all m _ a.2.1 a.1
      exact ⟨b.1, b.2.1, fun e he => by rw [b.2.2.1 e he, li_f P.tok he, tok_0 D (by omega)], fun _ => q.1⟩
    · exact ⟨I, P, fun _ _ => rfl, id⟩
theorem rdA_all (hn : 0 ≤ n ∧ n ≤ 700) (hB : BY D) (h1 : NB (D 11)) (h2 : NB (D 12)) (hk : RIk D) : PR (rdA D n) ∧ RI (rdA D n) := by
  have Z0 := RZ.start hn hB h1 h2 hk
  have za : ∀ (m : Nat) (k : Int) (D : Nat → Int → Int), RZ D k 0 → RZ (rdz m k D) (k + m) 0 := by
    intro m
    induction m with
    | zero => intro k D Z; rw [show k + ((0 : Nat) : Int) = k by omega]; exact Z
    | succ m ih =>
      intro k D Z
      have := ih (k + 1) _ Z.na
      rw [show k + 1 + (m : Int) = k + ((m + 1 : Nat) : Int) by omega] at this
      exact this
  have zc : ∀ (m : Nat) (k : Int) (D : Nat → Int → Int), RZ D 48 k → RZ (rdm m k D) 48 (k + m) := by
    intro m
    induction m with
    | zero => intro k D Z; rw [show k + ((0 : Nat) : Int) = k by omega]; exact Z
    | succ m ih =>
      intro k D Z
      have := ih (k + 1) _ Z.nc
      rw [show k + 1 + (m : Int) = k + ((m + 1 : Nat) : Int) by omega] at this
      exact this
  have Z1 := za 48 0 _ Z0
  have Z2 := zc 6 0 _ Z1
  exact ⟨Z2.P, Z2.I⟩
theorem rdC_all {A : Nat → Int → Int} (P : PR A) : ST A (rdC A) := by
  unfold rdC
  split
  · exact (ST.refl P).go
  · exact ((ST.refl P).fl (by decide)).go
theorem rd_step {C : Nat → Int → Int} (P : PR C) {lo hi e : Int} (he : 26 < e ∧ e < 31) (h : dst (gD (tkE C lo hi)) 0 e (tvV C lo hi) 0 25 = 0) : (lo ≤ tvV C lo hi ∧ tvV C lo hi ≤ hi) ∧ C 0 25 = 0 := by
  rw [dst_ne (by omega), go_25] at h
  have a := tE_ok h
  exact ⟨by omega, ((ST.refl P).tE lo hi).e h⟩
theorem rd_keep {C : Nat → Int → Int} (P : PR C) {lo hi e v i : Int} (hi' : i ≠ e) (h : i < 21 ∨ 26 < i) : dst (gD (tkE C lo hi)) 0 e v 0 i = C 0 i := by
  rw [dst_ne hi']
  exact (((ST.refl P).tE lo hi).go).f h
theorem rdH_all (hn : 0 ≤ n ∧ n ≤ 700) (hB : BY D) (h1 : NB (D 11)) (h2 : NB (D 12)) (hk : RIk D) : PR (rdH D n) ∧ RI (rdH D n) ∧ (rdH D n 0 25 = 0 → RS (rdH D n)) := by
  obtain ⟨PA, IA⟩ := rdA_all hn hB h1 h2 hk
  have SC := rdC_all PA
  have PC := SC.P
  have IC := IA.st SC
  unfold rdH
  generalize rdC (rdA D n) = C at PC IC ⊢
  have P1 : PR (rd1 C) := PR_rd C PC (by decide)
  have I1 : RI (rd1 C) := RI_rd C PC IC (by decide)
  have P2 : PR (rd2 (rd1 C)) := PR_rd _ P1 (by decide)
  have I2 : RI (rd2 (rd1 C)) := RI_rd _ P1 I1 (by decide)
  have P3 : PR (rd3 (rd2 (rd1 C))) := PR_rd _ P2 (by decide)
  have I3 : RI (rd3 (rd2 (rd1 C))) := RI_rd _ P2 I2 (by decide)
  refine ⟨PR_rd _ P3 (by decide), RI_rd _ P3 I3 (by decide), fun h => ?_⟩
  have a4 := rd_step P3 (e := 30) (by decide) h
  have a3 := rd_step P2 (e := 29) (by decide) a4.2
  have a2 := rd_step P1 (e := 28) (by decide) a3.2
  have a1 := rd_step PC (e := 27) (by decide) a2.2
  have e30 : rd4 (rd3 (rd2 (rd1 C))) 0 30 = tvV (rd3 (rd2 (rd1 C))) 1 12 := dst_eq _ _ _ _
  have e29 : rd4 (rd3 (rd2 (rd1 C))) 0 29 = tvV (rd2 (rd1 C)) 1 50 := (rd_keep P3 (by decide) (by decide)).trans (dst_eq _ _ _ _)
  have e28 : rd4 (rd3 (rd2 (rd1 C))) 0 28 = tvV (rd1 C) 0 50 := (rd_keep P3 (by decide) (by decide)).trans ((rd_keep P2 (by decide) (by decide)).trans (dst_eq _ _ _ _))
  have e27 : rd4 (rd3 (rd2 (rd1 C))) 0 27 = tvV C 1 4 := (rd_keep P3 (by decide) (by decide)).trans ((rd_keep P2 (by decide) (by decide)).trans ((rd_keep P1 (by decide) (by decide)).trans (dst_eq _ _ _ _)))
  unfold RS
  rw [e30, e29, e28, e27]
  exact ⟨a1.1, a2.1, a3.1, a4.1⟩
theorem rdD_all (hn : 0 ≤ n ∧ n ≤ 700) (hB : BY D) (h1 : NB (D 11)) (h2 : NB (D 12)) (hk : RIk D) : PR (rdD D n) ∧ RI (rdD D n) ∧ (rdD D n 0 25 = 0 → RS (rdD D n) ∧ rdD D n = rdl 702 (rdH D n) ∧ rdl 702 (rdH D n) 0 23 = 0 ∧ rdH D n 0 25 = 0) := by
  obtain ⟨PH, IH, hS⟩ := rdH_all hn hB h1 h2 hk
  have L := rdl_all 702 _ PH IH
  have S : ST (rdl 702 (rdH D n)) (rdD D n) := by
    unfold rdD rdZ
    split
    · exact ST.refl L.2.1
    · exact (ST.refl L.2.1).fl (by decide)
  refine ⟨S.P, L.1.st S, fun h => ?_⟩
  have h0 := S.e h
  have e : rdD D n = rdl 702 (rdH D n) ∧ rdl 702 (rdH D n) 0 23 = 0 := by
    unfold rdD rdZ at h ⊢
    split at h
    · rename_i q; rw [if_pos q]; exact ⟨rfl, q⟩
    · exact absurd h (fl_25 _ (by decide))
  have hh := hS (L.2.2.2 h0)
  refine ⟨?_, e.1, e.2, L.2.2.2 h0⟩
  unfold RS
  rw [e.1, L.2.2.1 27 (by decide), L.2.2.1 28 (by decide), L.2.2.1 29 (by decide), L.2.2.1 30 (by decide)]
  exact hh
end RDD
/-! the rows behind 'becomes' -/
section BC
variable {D : Nat → Int → Int} {s : Int → Int}
theorem rcp_at {j j2 : Nat} (h : j2 ≠ j) : ∀ (n : Nat) (k : Int) (D : Nat → Int → Int) (e : Int), rcp j j2 n k D j e = if k ≤ e ∧ e < k + n then D j2 e else D j e
  | 0, k, D, e => by rw [if_neg (by omega)]; rfl
  | n + 1, k, D, e => by
    show rcp j j2 n (k + 1) (dst D j k (D j2 k)) j e = _
    rw [rcp_at h n, dst_row h]
    by_cases q : e = k
    · rw [q, if_neg (by omega), if_pos (by omega), dst_eq]
    · rw [dst_ne q]
      by_cases q2 : k ≤ e ∧ e < k + (n + 1 : Nat)
      · rw [if_pos (by omega), if_pos q2]
      · rw [if_neg (by omega), if_neg q2]
theorem rcp_row {j j2 i : Nat} (h : i ≠ j) : ∀ (n : Nat) (k : Int) (D : Nat → Int → Int), rcp j j2 n k D i = D i
  | 0, _, _ => rfl
  | n + 1, k, D => by
    show rcp j j2 n (k + 1) (dst D j k (D j2 k)) i = _
    rw [rcp_row h n, dst_row h]
theorem rc2_at : ∀ (n : Nat) (k : Int) (D : Nat → Int → Int) (e : Int), rc2 n k D 3 e = (if k ≤ e ∧ e < k + n then D 15 e else D 3 e) ∧ rc2 n k D 4 e = (if k ≤ e ∧ e < k + n then D 16 e else D 4 e)
  | 0, k, D, e => by rw [if_neg (by omega), if_neg (by omega)]; exact ⟨rfl, rfl⟩
  | n + 1, k, D, e => by
    have a := rc2_at n (k + 1) (dst (dst D 3 k (D 15 k)) 4 k (dst D 3 k (D 15 k) 16 k)) e
    show rc2 n (k + 1) (dst (dst D 3 k (D 15 k)) 4 k (dst D 3 k (D 15 k) 16 k)) 3 e = _ ∧ rc2 n (k + 1) (dst (dst D 3 k (D 15 k)) 4 k (dst D 3 k (D 15 k) 16 k)) 4 e = _
    rw [a.1, a.2, dst_row (show (15 : Nat) ≠ 4 by decide), dst_row (show (15 : Nat) ≠ 3 by decide), dst_row (show (16 : Nat) ≠ 4 by decide), dst_row (show (16 : Nat) ≠ 3 by decide), dst_row (show (3 : Nat) ≠ 4 by decide)]
    by_cases q : e = k
    · rw [q, if_neg (by omega), if_pos (by omega), dst_eq, if_neg (by omega), if_pos (by omega), dst_eq]
      exact ⟨rfl, rfl⟩
    · rw [dst_ne q, dst_ne q, dst_row (show (4 : Nat) ≠ 3 by decide)]
      by_cases q2 : k ≤ e ∧ e < k + (n + 1 : Nat)
      · rw [if_pos (by omega), if_pos q2, if_pos (by omega), if_pos q2]; exact ⟨rfl, rfl⟩
      · rw [if_neg (by omega), if_neg q2, if_neg (by omega), if_neg q2]; exact ⟨rfl, rfl⟩
theorem rc2_row {i : Nat} (h : i ≠ 3) (h4 : i ≠ 4) : ∀ (n : Nat) (k : Int) (D : Nat → Int → Int), rc2 n k D i = D i
  | 0, _, _ => rfl
  | n + 1, k, D => by
    show rc2 n (k + 1) (dst (dst D 3 k (D 15 k)) 4 k (dst D 3 k (D 15 k) 16 k)) i = _
    rw [rc2_row h h4 n, dst_row h4, dst_row h]
theorem szl_at : ∀ (n : Nat) (k : Int) (s : Int → Int) (e : Int), szl n k s e = if k ≤ e ∧ e < k + n then 0 else s e
  | 0, k, s, e => by rw [if_neg (by omega)]; rfl
  | n + 1, k, s, e => by
    show szl n (k + 1) (ups s k 0) e = _
    rw [szl_at n]
    by_cases q : e = k
    · rw [q, if_neg (by omega), if_pos (by omega), ups_eq]
    · rw [ups_ne q]
      by_cases q2 : k ≤ e ∧ e < k + (n + 1 : Nat)
      · rw [if_pos (by omega), if_pos q2]
      · rw [if_neg (by omega), if_neg q2]
theorem scr_at {lo : Int} {f : Int → Int} : ∀ (n : Nat) (k : Int) (s : Int → Int) (e : Int), scr lo f n k s e = if lo + k ≤ e ∧ e < lo + k + n then f (e - lo) else s e
  | 0, k, s, e => by rw [if_neg (by omega)]; rfl
  | n + 1, k, s, e => by
    show scr lo f n (k + 1) (ups s (lo + k) (f k)) e = _
    rw [scr_at n]
    by_cases q : e = lo + k
    · rw [q, if_neg (by omega), if_pos (by omega), ups_eq]
      congr 1
      omega
    · rw [ups_ne q]
      by_cases q2 : lo + k ≤ e ∧ e < lo + k + (n + 1 : Nat)
      · rw [if_pos (by omega), if_pos q2]
      · rw [if_neg (by omega), if_neg q2]
/-- the rows -/
theorem bc_rows (D : Nat → Int → Int) : (bcD D 0 2 = D 0 30 ∧ bcD D 0 3 = D 0 31 ∧ bcD D 0 4 = D 0 32 ∧ bcD D 0 5 = D 0 33) ∧ (∀ e, e < 2 ∨ 5 < e → bcD D 0 e = D 0 e) ∧ (∀ e, 0 ≤ e → e < 56 → bcD D 1 e = D 11 e) ∧ (∀ e, 0 ≤ e → e < 42 → bcD D 2 e = D 12 e) ∧ (∀ e, 0 ≤ e → e < 48 → bcD D 3 e = D 15 e ∧ bcD D 4 e = D 16 e) ∧ (∀ e, 0 ≤ e → e < 768 → bcD D 5 e = D 17 e) ∧ ∀ j, 6 ≤ j → bcD D j = D j := by
  have r0 : bcD D 0 = dst (dst (dst (dst D 0 2 (D 0 30)) 0 3 (D 0 31)) 0 4 (D 0 32)) 0 5 (D 0 33) 0 := by
    unfold bcD bd0 bd1 bd2 bd3
    rw [rcp_row (by decide), rc2_row (by decide) (by decide), rcp_row (by decide), rcp_row (by decide)]
  have rj : ∀ j, j ≠ 0 → dst (dst (dst (dst D 0 2 (D 0 30)) 0 3 (D 0 31)) 0 4 (D 0 32)) 0 5 (D 0 33) j = D j := fun j h => by rw [dst_row h, dst_row h, dst_row h, dst_row h]
  refine ⟨⟨by rw [r0]; rfl, by rw [r0]; rfl, by rw [r0]; rfl, by rw [r0]; rfl⟩, fun e h => ?_, fun e a b => ?_, fun e a b => ?_, fun e a b => ?_, fun e a b => ?_, fun j h => ?_⟩
  · rw [r0, dst_ne (by omega), dst_ne (by omega), dst_ne (by omega), dst_ne (by omega)]
  · unfold bcD bd0 bd1 bd2 bd3
    rw [rcp_row (by decide), rc2_row (by decide) (by decide), rcp_row (by decide), rcp_at (by decide), if_pos (by omega), rj _ (by decide)]
  · unfold bcD bd0 bd1 bd2 bd3
    rw [rcp_row (by decide), rc2_row (by decide) (by decide), rcp_at (by decide), if_pos (by omega), rcp_row (by decide), rj _ (by decide)]
  · unfold bcD bd0 bd1 bd2 bd3
    rw [rcp_row (by decide), rcp_row (by decide), (rc2_at _ _ _ _).1, (rc2_at _ _ _ _).2, if_pos (by omega), if_pos (by omega), rcp_row (by decide), rcp_row (by decide), rcp_row (by decide), rcp_row (by decide), rj _ (by decide), rj _ (by decide)]
    exact ⟨rfl, rfl⟩
  · unfold bcD bd0 bd1 bd2 bd3
    rw [rcp_at (by decide), if_pos (by omega), rc2_row (by decide) (by decide), rcp_row (by decide), rcp_row (by decide), rj _ (by decide)]
  · unfold bcD bd0 bd1 bd2 bd3
    rw [rcp_row (by omega), rc2_row (by omega) (by omega), rcp_row (by omega), rcp_row (by omega), rj _ (by omega)]
theorem b4_at (D : Nat → Int → Int) (s : Int → Int) (e : Int) : b4 D s e = if 85 ≤ e ∧ e < 91 then D 14 (e - 85) else if 13 ≤ e ∧ e < 37 then D 13 (e - 13) else if e = 12 then D 0 29 else if e = 11 then D 0 28 else if e = 10 then D 0 27 else if 0 ≤ e ∧ e < 861 then 0 else s e := by
  unfold b4 b5 b6 b7
  rw [scr_at]
  by_cases c1 : 85 ≤ e ∧ e < 91
  · rw [if_pos c1, if_pos (by omega)]
  rw [if_neg c1, if_neg (by omega), scr_at]
  by_cases c2 : 13 ≤ e ∧ e < 37
  · rw [if_pos c2, if_pos (by omega)]
  rw [if_neg c2, if_neg (by omega)]
  by_cases c3 : e = 12
  · rw [if_pos c3, c3, ups_eq]
  rw [if_neg c3, ups_ne c3]
  by_cases c4 : e = 11
  · rw [if_pos c4, c4, ups_eq]
  rw [if_neg c4, ups_ne c4]
  by_cases c5 : e = 10
  · rw [if_pos c5, c5, ups_eq]
  rw [if_neg c5, ups_ne c5, szl_at]
  by_cases c6 : 0 ≤ e ∧ e < 861
  · rw [if_pos c6, if_pos (by omega)]
  · rw [if_neg c6, if_neg (by omega)]
theorem b4_z (D : Nat → Int → Int) (s : Int → Int) {e : Int} (h : 0 ≤ e ∧ e < 861) (h1 : e < 10 ∨ 36 < e) (h2 : e < 85 ∨ 90 < e) : b4 D s e = 0 := by
  rw [b4_at, if_neg (by omega), if_neg (by omega), if_neg (by omega), if_neg (by omega), if_neg (by omega), if_pos h]
theorem HI_b4 {X : Nat → Int → Int} (s : Int → Int) {K P c : Int} (hP : 0 ≤ P) (hK : 0 ≤ K ∧ K ≤ 8) (hc : 0 ≤ c ∧ c ≤ 12) (k : RIk X) (m : ∀ p, 0 ≤ p → p < 6 → InR (X 14 p)) (st : RS X) (h1 : InR (s (-1))) (h2 : InR (s (-2))) : HI K P c 0 (b4 X s) := by
  have z : ∀ {e : Int}, 0 ≤ e ∧ e < 861 → e < 10 ∨ 36 < e → e < 85 ∨ 90 < e → b4 X s e = 0 := fun h a b => b4_z X s h a b
  have qn : ∀ p, 0 ≤ p → p < 6 → b4 X s (115 + p) = 0 := fun p a b => z (by omega) (by omega) (by omega)
  have sn : ∀ p, 0 ≤ p → p < 6 → b4 X s (511 + p) = 0 := fun p a b => z (by omega) (by omega) (by omega)
  have e2 : b4 X s 2 = 0 := z (by omega) (by omega) (by omega)
  refine ⟨fun q a b => ?_, fun p q a b a' b' => ?_, fun p a b => ?_, fun e he => ?_, ⟨by omega, fun p a b => ⟨by rw [qn p a b]; omega, fun i i0 i1 => by rw [qn p a b] at i1; omega⟩⟩, fun p a b => ⟨by rw [sn p a b]; omega, fun i i0 i1 => by rw [sn p a b] at i1; omega⟩, fun j a b h => by rw [e2] at h; omega, ⟨fun p a b => ?_, fun p q a b a' b' => ?_⟩, ⟨fun p i q j a b i0 i1 => by rw [qn p a b] at i1; omega, fun p i q j a b i0 i1 => by rw [qn p a b] at i1; omega⟩, ?_⟩
  · have e : ∀ w, 0 ≤ w → w < 3 → kn (b4 X s) q w = X 13 (3 * q + w) := fun w w0 w1 => by
      unfold kn
      rw [b4_at, if_neg (by omega), if_pos (by omega), show 13 + 3 * q + w - 13 = 3 * q + w by omega]
    have e0 := e 0 (by omega) (by omega)
    rw [Int.add_zero] at e0
    rw [e0, e 1 (by omega) (by omega), e 2 (by omega) (by omega)]
    exact k q a b
  · have : td (b4 X s) p q = 0 := z (by omega) (by omega) (by omega)
    omega
  · rw [b4_at, if_pos (by omega), show 85 + p - 85 = p by omega]
    exact m p a b
  · unfold isC at he
    rw [z (by omega) (by omega) (by omega)]
    omega
  · exact ⟨qn p (by omega) b, sn p (by omega) b⟩
  · exact z (by omega) (by omega) (by omega)
  · obtain ⟨s1, s2, s3, s4⟩ := st
    have e10 : b4 X s 10 = X 0 27 := by rw [b4_at]; rfl
    have e11 : b4 X s 11 = X 0 28 := by rw [b4_at]; rfl
    have e12 : b4 X s 12 = X 0 29 := by rw [b4_at]; rfl
    have m1 : b4 X s (-1) = s (-1) := by rw [b4_at]; rfl
    have m2 : b4 X s (-2) = s (-2) := by rw [b4_at]; rfl
    unfold HIo
    rw [e10, e11, e12, m1, m2]
    exact ⟨s1, s2, s3, h1, h2⟩
/-- all is well behind a reading without an error -/
theorem BOK_of {X : Nat → Int → Int} (s : Int → Int) (I : RI X) (st : RS X) (h1 : InR (s (-1))) (h2 : InR (s (-2))) : BOK (bcD X) (b4 (bcD X) s) := by
  obtain ⟨⟨f2, f3, f4, f5⟩, fe, r1, r2, r3, r5, rj⟩ := bc_rows X
  have k31 := I.K.1
  have k32 := I.K.2.1
  have f34 : bcD X 0 34 = X 0 34 := fe 34 (by decide)
  have V : PIv (bcD X) := by
    refine ⟨by rw [f2]; exact st.2.2.2, by rw [f3]; exact k31, by rw [f4]; exact k32, fun h h0 h1 => ?_⟩
    obtain ⟨a1, a2, a3, a4, a5⟩ := I.a h0 h1
    have e := r3 h h0 h1
    rw [e.1, e.2]
    refine ⟨a1, a2, fun i i0 i1 => ?_⟩
    obtain ⟨b1, b2, b3, b4, b5⟩ := a5 i i0 i1
    rw [r5 _ (by omega) (by omega), r5 _ (by omega) (by omega), r5 _ (by omega) (by omega), r5 _ (by omega) (by omega), f3, f4]
    exact ⟨b1, b2, b3, b4, b5⟩
  refine ⟨V, ?_, by rw [f34]; exact I.h34, fun i i0 i1 => ?_⟩
  · refine HI_b4 s (by rw [f4]; exact k32.1) (by rw [f3]; exact k31) (by rw [f2]; have := st.2.2.2; omega) (I.k.of (rj 13 (by decide))) (by rw [rj 14 (by decide)]; exact I.m) ?_ h1 h2
    unfold RS
    rw [fe 27 (by decide), fe 28 (by decide), fe 29 (by decide), fe 30 (by decide)]
    exact st
  · rw [f34] at i1
    rw [rj 18 (by decide), f3, f4]
    exact I.s i i0 i1
theorem bse_HI {X : Nat → Int → Int} (V : PIv X) (hS : ∀ i, 0 ≤ i → i < X 0 34 → (0 ≤ X 18 (3 * i) ∧ X 18 (3 * i) < X 0 4) ∧ (0 ≤ X 18 (3 * i + 1) ∧ X 18 (3 * i + 1) < X 0 3) ∧ (0 ≤ X 18 (3 * i + 2) ∧ X 18 (3 * i + 2) ≤ 999)) : ∀ (n : Nat) (k N : Int) (s : Int → Int), HI (X 0 3) (X 0 4) (X 0 2) N s → 0 ≤ k → k + n = X 0 34 → HI (X 0 3) (X 0 4) (X 0 2) (N + 2 * n) (bse X n k s)
  | 0, k, N, s, I, _, _ => by
    rw [show N + 2 * ((0 : Nat) : Int) = N by omega]
    exact I
  | n + 1, k, N, s, I, h0, h1 => by
    have q := hS k h0 (by omega)
    have I2 := snd_HI (v := X 18 (3 * k + 2)) (b := -1) I V.1.2 V.2.1 V.2.2.1 q.1 q.2.1 (by omega) (by omega)
    have := bse_HI V hS n (k + 1) (N + 2) _ I2 (by omega) (by omega)
    rw [show N + 2 + 2 * (n : Int) = N + 2 * ((n + 1 : Nat) : Int) by omega] at this
    exact this
end BC

def ldE (D : Nat → Int → Int) (n : Int) : Nat → Int → Int := dst (dst (rdD (dst D 0 17 0) n) 0 18 (rdD (dst D 0 17 0) n 0 25)) 0 19 (if rdD (dst D 0 17 0) n 0 25 = 0 then -1 else rdD (dst D 0 17 0) n 0 26)
def ldO (D : Nat → Int → Int) (n : Int) : Nat → Int → Int := dst (dst (dst (bcD (dst (ldE D n) 0 1 1)) 0 14 0) 9 0 0) 9 1 0
