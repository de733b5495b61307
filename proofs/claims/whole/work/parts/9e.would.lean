/-! what would be -/
def idc (D : Nat → Int → Int) (s : Int → Int) (p : Int) : Int :=
  if p ≠ -1 then (if s (115 + p) = 0 ∧ s (511 + p) = 0 then 1 else 0) else (if suml s 115 (D 0 4).toNat 0 0 = 0 ∧ suml s 511 (D 0 4).toNat 0 0 = 0 then 1 else 0)
theorem idc_01 (D : Nat → Int → Int) (s : Int → Int) (p : Int) : idc D s p = 0 ∨ idc D s p = 1 := by
  unfold idc
  split <;> split <;> omega
def til (D : Nat → Int → Int) (p : Int) : Nat → Int → (Int → Int) → Int
  | 0, k, s => if idc D s p = 1 then k else -1
  | n + 1, k, s => if idc D s p = 1 then k else til D p n (k + 1) (e_tick D s)
def teN (D : Nat → Int → Int) : Nat → Int → (Int → Int) → Int
  | 0, k, _ => k
  | n + 1, k, s => if s (-2) = -1 then teN D n (k + 1) (e_tick D s) else k
def teE (D : Nat → Int → Int) : Nat → (Int → Int) → Int
  | 0, s => s (-2)
  | n + 1, s => if s (-2) = -1 then teE D n (e_tick D s) else s (-2)
def wat (s : Int → Int) (g : Int) : Int → Int := ups (ups s (-1) g) (-2) (-1)
def eov (D : Nat → Int → Int) (s : Int → Int) (g : Int) : Int := if pnl s g (D 0 4).toNat 0 = -1 then -1 else teE D 200 (wat s g)
def eiv (D : Nat → Int → Int) (s : Int → Int) (g : Int) : Int := if eov D s g = -1 then -1 else teN D 200 0 (wat s g)
def bmm (s : Int → Int) (p k : Int) : Int → Int := ups s (85 + p) (bor (s (85 + p)) (bshl 1 k))
def bml (D : Nat → Int → Int) (s : Int → Int) (p : Int) : Nat → Int → Int → Int → Int
  | 0, _, best, _ => best
  | n + 1, k, best, least =>
    if msk s p k = 0 then
      (if best = -1 ∨ e_tks D 50 (bmm s p k) (91 + 4 * p + 3) - s (91 + 4 * p + 3) < least then bml D s p n (k + 1) k (e_tks D 50 (bmm s p k) (91 + 4 * p + 3) - s (91 + 4 * p + 3)) else bml D s p n (k + 1) best least)
    else bml D s p n (k + 1) best least
theorem suml_D {s : Int → Int} {a : Int} : ∀ (n : Nat) (p acc : Int), (∀ q, p ≤ q → q < p + n → 0 ≤ s (a + q) ∧ s (a + q) ≤ 13) → 0 ≤ acc ∧ acc + 13 * n ≤ 1000 → 0 ≤ suml s a n p acc ∧ suml s a n p acc ≤ 1000
  | 0, _, acc, _, h => by show 0 ≤ acc ∧ acc ≤ 1000; omega
  | n + 1, p, acc, hs, h => by
    have := hs p (by omega) (by omega)
    exact suml_D n (p + 1) _ (fun q a b => hs q (by omega) (by omega)) (by omega)
theorem watEq {K P c N : Int} {s : Int → Int} {g : Int} (I : HI K P c N s) (hK : 0 ≤ K) (hP : 0 ≤ P) (hg : InR g) : HI K P c N (wat s g) := by
  have ne : ∀ i, 0 ≤ i → wat s g i = s i := fun i h => by unfold wat; rw [ups_ne (by omega), ups_ne (by omega)]
  have w1 : wat s g (-1) = g := by unfold wat; rw [ups_ne (by omega), ups_eq]
  have w2 : wat s g (-2) = -1 := ups_eq _ _ _
  have I1 := SEq.HI (s' := ups (wat s g) (-1) (s (-1))) ⟨fun e h _ => by rw [ups_ne (by omega)]; exact ne e h, ups_eq _ _ _, by rw [ups_ne (by omega), w2]; exact ⟨by omega, by omega⟩⟩ I hK hP
  obtain ⟨a1, a2, a3, a4, a5, a6, a7, a8, a9, b1, b2, b3, b4, b5⟩ := I1
  have e : ∀ i, 0 ≤ i → wat s g i = ups (wat s g) (-1) (s (-1)) i := fun i h => (ups_ne (by omega)).symm
  have e0 := e 0 (by omega)
  have e1 := e 1 (by omega)
  refine ⟨a1.of (fun i _ _ => e i (by omega)), a2.of (fun i _ _ => e i (by omega)), a3.of (fun i _ _ => e i (by omega)), fun i hi => ?_, a5.of (fun i _ _ => e i (by omega)) (by omega) (by omega), a6.of (fun i _ _ => e i (by omega)) (by omega) (by omega), a7.of (fun i _ _ => e i (by omega)) (by omega) (by omega) (e 2 (by omega)), a8.of hK hP (fun p h1 h2 => ⟨e _ (by omega), e _ (by omega)⟩) (fun i _ _ => e i (by omega)), HId.of a5 a6 a9 (fun i _ _ => e i (by omega)), ?_⟩
  · have := a4 i hi
    unfold isC at hi
    rw [e i (by omega)]
    exact this
  · unfold HIo
    rw [e 10 (by omega), e 11 (by omega), e 12 (by omega), w1, w2]
    exact ⟨b1, b2, b3, hg, by omega, by omega⟩
theorem idc_D {D D' : Nat → Int → Int} (q : DEq D D') (s : Int → Int) (p : Int) : idc D' s p = idc D s p := by
  unfold idc
  rw [q.2.2.1]
theorem til_D {D D' : Nat → Int → Int} (q : DEq D D') (p : Int) : ∀ (n : Nat) (k : Int) (s : Int → Int), til D' p n k s = til D p n k s
  | 0, k, s => by
    show (if idc D' s p = 1 then k else -1) = (if idc D s p = 1 then k else -1)
    rw [idc_D q]
  | n + 1, k, s => by
    show (if idc D' s p = 1 then k else til D' p n (k + 1) (e_tick D' s)) = (if idc D s p = 1 then k else til D p n (k + 1) (e_tick D s))
    rw [idc_D q, tick_D q, til_D q p n]
theorem aside_row (D : Nat → Int → Int) (s : Int → Int) {j : Nat} (h : j ≠ 7) : dcp 7 0 s 861 0 D j = D j := dcp_row h
theorem back_we {s s0 f : Int → Int} (ho : ∀ e, (e < 0 ∨ 861 ≤ e) → e ≠ -1 → e ≠ -2 → s e = s0 e) (hf : ∀ e, 0 ≤ e → e < 861 → f e = s0 e) (hw : s0 (-1) = -1) : scp 0 f 861 0 (ups s (-1) (-1)) = ups s0 (-2) (s (-2)) := by
  funext e
  rw [scp_at]
  by_cases c : 0 ≤ e ∧ e < 0 + ((861 : Nat) : Int)
  · rw [if_pos c, ups_ne (by omega), show (0 : Int) + e = e by omega, hf e c.1 (by omega)]
  · rw [if_neg c]
    by_cases c1 : e = -1
    · rw [c1, ups_eq, ups_ne (by omega), hw]
    · rw [ups_ne c1]
      by_cases c2 : e = -2
      · rw [c2, ups_eq]
      · rw [ups_ne c2, ho e (by omega) c1 c2]
theorem wat_out {s : Int → Int} {g e : Int} (h1 : e ≠ -1) (h2 : e ≠ -2) : wat s g e = s e := by
  unfold wat
  rw [ups_ne h2, ups_ne h1]
theorem wat_1 (s : Int → Int) (g : Int) : wat s g (-1) = g := by
  unfold wat
  rw [ups_ne (by omega), ups_eq]
theorem wat_2 (s : Int → Int) (g : Int) : wat s g (-2) = -1 := by
  unfold wat
  rw [ups_eq]
theorem teN_D {D D' : Nat → Int → Int} (q : DEq D D') : ∀ (n : Nat) (k : Int) (s : Int → Int), teN D' n k s = teN D n k s
  | 0, k, s => rfl
  | n + 1, k, s => by
    show (if s (-2) = -1 then teN D' n (k + 1) (e_tick D' s) else k) = (if s (-2) = -1 then teN D n (k + 1) (e_tick D s) else k)
    rw [tick_D q, teN_D q n]
theorem teE_D {D D' : Nat → Int → Int} (q : DEq D D') : ∀ (n : Nat) (s : Int → Int), teE D' n s = teE D n s
  | 0, s => rfl
  | n + 1, s => by
    show (if s (-2) = -1 then teE D' n (e_tick D' s) else s (-2)) = (if s (-2) = -1 then teE D n (e_tick D s) else s (-2))
    rw [tick_D q, teE_D q n]
theorem DEq.of7 {D D' : Nat → Int → Int} (h : ∀ j, j ≠ 7 → D' j = D j) : DEq D D' := by
  refine ⟨?_, ?_, ?_, ?_, ?_, ?_⟩ <;> rw [h _ (by decide)]
theorem teE_rng {D : Nat → Int → Int} {K P : Int} (V : PIv D) (hK : K = D 0 3) (hP : P = D 0 4) : ∀ (n : Nat) (N : Int) (s : Int → Int), HI K P (D 0 2) N s → InR (teE D n s)
  | 0, _, s, I => I.ho.2.2.2.2
  | n + 1, _, s, I => by
    show InR (if s (-2) = -1 then teE D n (e_tick D s) else s (-2))
    split
    · exact teE_rng V hK hP n _ _ (tick_HI I V hK hP)
    · exact I.ho.2.2.2.2
theorem eov_rng {D : Nat → Int → Int} {s : Int → Int} {N g : Int} (I : HI (D 0 3) (D 0 4) (D 0 2) N s) (V : PIv D) (hg : InR g) : InR (eov D s g) := by
  unfold eov
  split
  · exact ⟨by omega, by omega⟩
  · exact teE_rng V rfl rfl _ _ _ (watEq I (by have := V.2.1; omega) (by have := V.2.2.1; omega) hg)
theorem ups_ups (s : Int → Int) (e v w : Int) : ups (ups s e v) e w = ups s e w := by
  funext i
  unfold ups
  split <;> rfl
theorem bmm_back (s : Int → Int) (p k : Int) : ups (bmm s p k) (85 + p) (s (85 + p)) = s := by
  unfold bmm
  rw [ups_ups, ups_self]
theorem bmm_ne {s : Int → Int} {p k e : Int} (h : e ≠ 85 + p) : bmm s p k e = s e := ups_ne h
