/-! the lines' states -/
def KP (D : Nat → Int → Int) : Prop := (0 ≤ D 0 31 ∧ D 0 31 ≤ 8) ∧ (0 ≤ D 0 32 ∧ D 0 32 ≤ 6) ∧ NB (D 11) ∧ NB (D 12)
def l1D (D : Nat → Int → Int) (f K : Int) : Nat → Int → Int := if D 0 f = K then flD D 4 else D
theorem PR.l1 {D : Nat → Int → Int} (P : PR D) (f K : Int) : PR (l1D D f K) := by
  unfold l1D
  split
  · exact P.fl (by decide)
  · exact P
theorem l1_0 (D : Nat → Int → Int) (f K : Int) {e : Int} (h : e < 21 ∨ 26 < e) : l1D D f K 0 e = D 0 e := by
  unfold l1D
  split
  · exact fl_0 D _ (by omega) (by omega)
  · rfl
theorem l1_row (D : Nat → Int → Int) (f K : Int) {j : Nat} (h : j ≠ 0) : l1D D f K j = D j := by
  unfold l1D
  split
  · exact fl_row D _ h
  · rfl
def lpW (D : Nat → Int → Int) : Nat → Int → Int := nwD 12 (D 0 32) (if D 0 32 < 6 then D 0 32 else 0) (gD (l1D D 32 6))
def lpD (D : Nat → Int → Int) : Nat → Int → Int := dst (lpW D) 0 32 (lpW D 0 32 + (if lpW D 0 25 = 0 then 1 else 0))
def lkW (D : Nat → Int → Int) : Nat → Int → Int := nwD 11 (D 0 31) (if D 0 31 < 8 then D 0 31 else 0) (gD (l1D D 31 8))
def lkA (D : Nat → Int → Int) : Nat → Int → Int := gD (tkE (lkW D) 1 99)
def lkB (D : Nat → Int → Int) : Nat → Int → Int := gD (tkE (lkA D) 0 20)
def lkC (D : Nat → Int → Int) : Nat → Int → Int := gD (tkE (lkB D) 1 200)
def lkD (D : Nat → Int → Int) : Nat → Int → Int :=
  if lkC D 0 25 = 0 then dst (dst (dst (dst (lkC D) 13 (3 * (if D 0 31 < 8 then D 0 31 else 0)) (tvV (lkW D) 1 99)) 13 (3 * (if D 0 31 < 8 then D 0 31 else 0) + 1) (tvV (lkA D) 0 20)) 13 (3 * (if D 0 31 < 8 then D 0 31 else 0) + 2) (tvV (lkB D) 1 200)) 0 31 (D 0 31 + 1) else lkC D
theorem fl_25 (D : Nat → Int → Int) {w : Int} (hw : w ≠ 0) : flD D w 0 25 ≠ 0 := by
  unfold flD
  split
  · rw [dst_ne (by decide), dst_eq]; exact hw
  · assumption
theorem nhV_rng (j : Nat) {many : Int} (D : Nat → Int → Int) (hm : 0 ≤ many) : 0 ≤ nhV j many D ∧ (nhV j many D < many ∨ nhV j many D = 0) := by
  unfold nhV
  split
  · rename_i h
    have hk : nhK j many D ≠ -1 := by
      intro e
      unfold nhD at h
      rw [if_pos e] at h
      exact fl_25 _ (by decide) h
    unfold nhK at hk ⊢
    split
    · rename_i h2
      rw [if_pos h2] at hk
      have := nmv_rng (n1D D j) (n1D D) (n1D D 0 22) (n1D D 0 21) many.toNat 0 (by omega)
      omega
    · omega
  · omega
def lhB (D : Nat → Int → Int) : Nat → Int → Int := gD (nhD 12 (D 0 32) (gD D))
def lhp (D : Nat → Int → Int) : Int := nhV 12 (D 0 32) (gD D)
def lhk (D : Nat → Int → Int) : Int := nhV 11 (D 0 31) (lhB D)
def lhC (D : Nat → Int → Int) : Nat → Int → Int := nhD 11 (D 0 31) (lhB D)
def lhE (D : Nat → Int → Int) : Nat → Int → Int := if lhC D 0 25 = 0 ∧ band (bshr (lhC D 14 (lhp D)) (lhk D)) 1 = 1 then flD (lhC D) 3 else lhC D
def lhF (D : Nat → Int → Int) : Nat → Int → Int := if lhE D 0 25 = 0 then dst (lhE D) 14 (lhp D) (bor (lhE D 14 (lhp D)) (bshl 1 (lhk D))) else lhE D
def lhD (D : Nat → Int → Int) : Nat → Int → Int := gD (lhF D)
theorem KP.keep {D D' : Nat → Int → Int} (K : KP D) (h1 : D' 0 31 = D 0 31) (h2 : D' 0 32 = D 0 32) (h3 : D' 11 = D 11) (h4 : D' 12 = D 12) : KP D' := by
  unfold KP
  rw [h1, h2, h3, h4]
  exact K
theorem KP.go {D : Nat → Int → Int} (K : KP D) : KP (gD D) := K.keep (go_0 _ (by decide)) (go_0 _ (by decide)) (go_row _ (by decide)) (go_row _ (by decide))
theorem KP.nh {D : Nat → Int → Int} (K : KP D) (j : Nat) (many : Int) : KP (nhD j many D) := K.keep (nh_0 _ _ _ (by decide) (by decide)) (nh_0 _ _ _ (by decide) (by decide)) (nh_row _ _ _ (by decide)) (nh_row _ _ _ (by decide))
theorem bad_fl {D : Nat → Int → Int} (w : Int) (h : D 0 25 ≠ 0) : flD D w = D := by unfold flD; rw [if_neg h]
theorem bad_go {D : Nat → Int → Int} (h : D 0 25 ≠ 0) : gD D = D := by unfold gD; rw [if_neg h]
theorem bad_n1 {D : Nat → Int → Int} (h : D 0 25 ≠ 0) : n1D D = D := by
  unfold n1D
  split
  · rfl
  · exact bad_fl 1 h
theorem bad_nh {D : Nat → Int → Int} (j : Nat) (many : Int) (h : D 0 25 ≠ 0) : nhD j many D = D := by
  unfold nhD
  rw [bad_n1 h, bad_fl 3 h]
  split <;> rfl
theorem bad_tE {D : Nat → Int → Int} (lo hi : Int) (h : D 0 25 ≠ 0) : tkE D lo hi = D := by
  unfold tkE
  rw [bad_fl 1 h, bad_fl 2 h]
  split
  · split <;> rfl
  · rfl
def lsA (D : Nat → Int → Int) : Nat → Int → Int := gD (l1D D 34 12)
def lsp (D : Nat → Int → Int) : Int := nhV 12 (D 0 32) (lsA D)
def lsB (D : Nat → Int → Int) : Nat → Int → Int := gD (nhD 12 (D 0 32) (lsA D))
def lsk (D : Nat → Int → Int) : Int := nhV 11 (D 0 31) (lsB D)
def lsC (D : Nat → Int → Int) : Nat → Int → Int := gD (nhD 11 (D 0 31) (lsB D))
def lsE (D : Nat → Int → Int) : Nat → Int → Int := gD (tkE (lsC D) 0 999)
def lsD (D : Nat → Int → Int) : Nat → Int → Int :=
  if lsE D 0 25 = 0 then dst (dst (dst (dst (lsE D) 18 (3 * D 0 34) (lsp D)) 18 (3 * D 0 34 + 1) (lsk D)) 18 (3 * D 0 34 + 2) (tvV (lsC D) 0 999)) 0 34 (D 0 34 + 1) else lsE D
theorem ls_room {D : Nat → Int → Int} (h : lsE D 0 25 = 0) : D 0 34 ≠ 12 := by
  intro e
  have a0 : l1D D 34 12 0 25 ≠ 0 := by
    unfold l1D
    rw [if_pos e]
    exact fl_25 _ (by decide)
  have a1 : lsA D 0 25 ≠ 0 := by unfold lsA; rw [bad_go a0]; exact a0
  have a2 : lsB D 0 25 ≠ 0 := by unfold lsB; rw [bad_nh _ _ a1, bad_go a1]; exact a1
  have a3 : lsC D 0 25 ≠ 0 := by unfold lsC; rw [bad_nh _ _ a2, bad_go a2]; exact a2
  have a4 : lsE D 0 25 ≠ 0 := by unfold lsE; rw [bad_tE _ _ a3, bad_go a3]; exact a3
  exact a4 h
theorem KP.l1 {D : Nat → Int → Int} (K : KP D) (f m : Int) : KP (l1D D f m) := K.keep (l1_0 _ _ _ (by decide)) (l1_0 _ _ _ (by decide)) (l1_row _ _ _ (by decide)) (l1_row _ _ _ (by decide))
theorem KP.tE {D : Nat → Int → Int} (K : KP D) (lo hi : Int) : KP (tkE D lo hi) := K.keep (tE_0 _ _ _ (by decide)) (tE_0 _ _ _ (by decide)) (tE_row _ _ _ (by decide)) (tE_row _ _ _ (by decide))
def laF (D : Nat → Int → Int) : Nat → Int → Int := if aht D = -1 then flD D 1 else D
def laA (D : Nat → Int → Int) (g : Int) : Nat → Int → Int := if laF D 0 25 = 0 ∧ laF D 16 g = 4 then flD (laF D) 4 else laF D
def laB (D : Nat → Int → Int) (g : Int) : Nat → Int → Int := gD (laA D g)
def lak (D : Nat → Int → Int) (g : Int) : Int := nhV 11 (D 0 31) (laB D g)
def laC (D : Nat → Int → Int) (g : Int) : Nat → Int → Int := gD (nhD 11 (D 0 31) (laB D g))
def lap (D : Nat → Int → Int) (g : Int) : Int := if aht D = 0 then nhV 12 (D 0 32) (laC D g) else -1
def laE (D : Nat → Int → Int) (g : Int) : Nat → Int → Int := if aht D = 0 then gD (nhD 12 (D 0 32) (laC D g)) else laC D g
def lav (D : Nat → Int → Int) (g : Int) : Int := if aht D = 0 then tvV (laE D g) 0 999 else -1
def laG (D : Nat → Int → Int) (g : Int) : Nat → Int → Int := if aht D = 0 then gD (tkE (laE D g) 0 999) else laE D g
def laD (D : Nat → Int → Int) (g : Int) : Nat → Int → Int :=
  if laG D g 0 25 = 0 then dst (dst (dst (dst (dst (laG D g) 17 (4 * (4 * g + D 16 g)) (aht D)) 17 (4 * (4 * g + D 16 g) + 1) (lak D g)) 17 (4 * (4 * g + D 16 g) + 2) (lap D g)) 17 (4 * (4 * g + D 16 g) + 3) (lav D g)) 16 g (D 16 g + 1) else laG D g
theorem laF_row (D : Nat → Int → Int) {j : Nat} (h : j ≠ 0) : laF D j = D j := by
  unfold laF
  split
  · exact fl_row D _ h
  · rfl
theorem la_room {D : Nat → Int → Int} {g : Int} (h : laG D g 0 25 = 0) : aht D ≠ -1 ∧ D 16 g ≠ 4 := by
  have key : laA D g 0 25 = 0 := by
    by_cases c : laA D g 0 25 = 0
    · exact c
    · exfalso
      have a1 : laB D g = laA D g := bad_go c
      have a2 : laC D g = laA D g := by unfold laC; rw [a1, bad_nh _ _ c, bad_go c]
      have a3 : laE D g = laA D g := by unfold laE; rw [a2, bad_nh _ _ c, bad_go c]; split <;> rfl
      have a4 : laG D g = laA D g := by unfold laG; rw [a3, bad_tE _ _ c, bad_go c]; split <;> rfl
      rw [a4] at h
      exact c h
  constructor
  · intro e
    have f0 : laF D 0 25 ≠ 0 := by unfold laF; rw [if_pos e]; exact fl_25 _ (by decide)
    unfold laA at key
    rw [if_neg (fun z => f0 z.1)] at key
    exact f0 key
  · intro e
    unfold laA at key
    rw [laF_row D (j := 16) (by decide)] at key
    by_cases f0 : laF D 0 25 = 0
    · rw [if_pos ⟨f0, e⟩] at key
      exact fl_25 _ (by decide) key
    · rw [if_neg (fun z => f0 z.1)] at key
      exact f0 key
