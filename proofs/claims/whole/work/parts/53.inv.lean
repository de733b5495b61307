/-! what holds of a hall's row at all times -/
def HIk (s : Int → Int) : Prop := ∀ k, 0 ≤ k → k < 8 → (0 ≤ kn s k 0 ∧ kn s k 0 ≤ 99) ∧ (0 ≤ kn s k 1 ∧ kn s k 1 ≤ 20) ∧ (0 ≤ kn s k 2 ∧ kn s k 2 ≤ 200)
def HIt (s : Int → Int) : Prop := ∀ p k, 0 ≤ p → p < 6 → 0 ≤ k → k < 8 → 0 ≤ td s p k ∧ td s p k ≤ 99
def HIm (s : Int → Int) : Prop := ∀ p, 0 ≤ p → p < 6 → InR (s (85 + p))
def isC (e : Int) : Prop := 0 ≤ e ∧ e < 3 ∨ 4 ≤ e ∧ e < 10 ∨ 91 ≤ e ∧ e < 115
def HIc (s : Int → Int) (N : Int) : Prop := ∀ e, isC e → 0 ≤ s e ∧ s e ≤ N
def QE (K : Int) (s : Int → Int) (p i : Int) : Prop := (0 ≤ qv s p i 0 ∧ qv s p i 0 < s 1) ∧ (0 ≤ qv s p i 1 ∧ qv s p i 1 < K) ∧ (-1 ≤ qv s p i 2 ∧ qv s p i 2 < 6) ∧ (0 ≤ qv s p i 3 ∧ qv s p i 3 < 1000) ∧ (0 ≤ qv s p i 4 ∧ qv s p i 4 ≤ s 0)
/-- the queues; c: how many may be in one -/
def HIq (K c : Int) (s : Int → Int) : Prop := c ≤ 13 ∧ ∀ p, 0 ≤ p → p < 6 → (0 ≤ s (115 + p) ∧ s (115 + p) ≤ c) ∧ ∀ i, 0 ≤ i → i < s (115 + p) → QE K s p i
def SE (K : Int) (s : Int → Int) (p i : Int) : Prop := (0 ≤ sv s p i 0 ∧ sv s p i 0 < s 1) ∧ (0 ≤ sv s p i 1 ∧ sv s p i 1 < K) ∧ (1 ≤ sv s p i 2 ∧ sv s p i 2 < 100) ∧ (1 ≤ sv s p i 3 ∧ sv s p i 3 ≤ 20) ∧ (0 ≤ sv s p i 4 ∧ sv s p i 4 < 1000) ∧ (0 ≤ sv s p i 5 ∧ sv s p i 5 ≤ s 0)
def HIs (K : Int) (s : Int → Int) : Prop := ∀ p, 0 ≤ p → p < 6 → (0 ≤ s (511 + p) ∧ s (511 + p) ≤ 4) ∧ ∀ i, 0 ≤ i → i < s (511 + p) → SE K s p i
def rv (s : Int → Int) (j w : Int) : Int := s (661 + 5 * j + w)
def HIr (s : Int → Int) : Prop := ∀ j, 0 ≤ j → j < 40 → j < s 2 → (0 ≤ rv s j 0 ∧ rv s j 0 < s 1) ∧ (0 ≤ rv s j 1 ∧ rv s j 1 < 6) ∧ (0 ≤ rv s j 2 ∧ rv s j 2 ≤ s 0) ∧ (0 ≤ rv s j 3 ∧ rv s j 3 < 6) ∧ (0 ≤ rv s j 4 ∧ rv s j 4 < 8)
def HIz (K P : Int) (s : Int → Int) : Prop := (∀ p, P ≤ p → p < 6 → s (115 + p) = 0 ∧ s (511 + p) = 0) ∧ ∀ p k, 0 ≤ p → p < 6 → K ≤ k → k < 8 → td s p k = 0
/-- no number is in two queues' places, or in a queue and a stack -/
def HId (s : Int → Int) : Prop := (∀ p i q j, 0 ≤ p → p < 6 → 0 ≤ i → i < s (115 + p) → 0 ≤ q → q < 6 → 0 ≤ j → j < s (115 + q) → qv s p i 0 = qv s q j 0 → p = q ∧ i = j) ∧
  ∀ p i q j, 0 ≤ p → p < 6 → 0 ≤ i → i < s (115 + p) → 0 ≤ q → q < 6 → 0 ≤ j → j < s (511 + q) → qv s p i 0 ≠ sv s q j 0
def HIo (s : Int → Int) : Prop := (1 ≤ s 10 ∧ s 10 ≤ 4) ∧ (0 ≤ s 11 ∧ s 11 ≤ 50) ∧ (1 ≤ s 12 ∧ s 12 ≤ 50) ∧ InR (s (-1)) ∧ InR (s (-2))
def PIv (D : Nat → Int → Int) : Prop := (1 ≤ D 0 2 ∧ D 0 2 ≤ 12) ∧ (0 ≤ D 0 3 ∧ D 0 3 ≤ 8) ∧ (0 ≤ D 0 4 ∧ D 0 4 ≤ 6) ∧ ∀ h, 0 ≤ h → h < 48 → (0 ≤ D 3 h ∧ D 3 h ≤ 20) ∧ (0 ≤ D 4 h ∧ D 4 h ≤ 4) ∧ ∀ i, 0 ≤ i → i < D 4 h →
  (0 ≤ D 5 (4 * (4 * h + i)) ∧ D 5 (4 * (4 * h + i)) ≤ 3) ∧ (0 ≤ D 5 (4 * (4 * h + i) + 1) ∧ D 5 (4 * (4 * h + i) + 1) < D 0 3) ∧ (-1 ≤ D 5 (4 * (4 * h + i) + 2) ∧ D 5 (4 * (4 * h + i) + 2) < 6) ∧ (-1 ≤ D 5 (4 * (4 * h + i) + 3) ∧ D 5 (4 * (4 * h + i) + 3) ≤ 999) ∧
  (D 5 (4 * (4 * h + i)) = 0 → (0 ≤ D 5 (4 * (4 * h + i) + 2) ∧ D 5 (4 * (4 * h + i) + 2) < D 0 4) ∧ 0 ≤ D 5 (4 * (4 * h + i) + 3))
/-- all of it: K kinds, P programs, c the most in a queue, N the most that is counted -/
def HI (K P c N : Int) (s : Int → Int) : Prop := HIk s ∧ HIt s ∧ HIm s ∧ HIc s N ∧ HIq K c s ∧ HIs K s ∧ HIr s ∧ HIz K P s ∧ HId s ∧ HIo s
section HINV
variable {K P c N : Int} {s s' : Int → Int}
theorem HI.hk (I : HI K P c N s) : HIk s := I.1
theorem HI.ht (I : HI K P c N s) : HIt s := I.2.1
theorem HI.hm (I : HI K P c N s) : HIm s := I.2.2.1
theorem HI.hc (I : HI K P c N s) : HIc s N := I.2.2.2.1
theorem HI.hq (I : HI K P c N s) : HIq K c s := I.2.2.2.2.1
theorem HI.hs (I : HI K P c N s) : HIs K s := I.2.2.2.2.2.1
theorem HI.hr (I : HI K P c N s) : HIr s := I.2.2.2.2.2.2.1
theorem HI.hz (I : HI K P c N s) : HIz K P s := I.2.2.2.2.2.2.2.1
theorem HI.hd (I : HI K P c N s) : HId s := I.2.2.2.2.2.2.2.2.1
theorem HI.ho (I : HI K P c N s) : HIo s := I.2.2.2.2.2.2.2.2.2
theorem HI.cn (I : HI K P c N s) {e : Int} (h : isC e) : 0 ≤ s e ∧ s e ≤ N := I.hc e h
theorem HI.e2 (I : HI K P c N s) : 0 ≤ s 2 ∧ s 2 ≤ N := I.hc 2 (Or.inl ⟨by omega, by omega⟩)
theorem HI.e1 (I : HI K P c N s) : 0 ≤ s 1 ∧ s 1 ≤ N := I.hc 1 (Or.inl ⟨by omega, by omega⟩)
theorem HI.e0 (I : HI K P c N s) : 0 ≤ s 0 ∧ s 0 ≤ N := I.hc 0 (Or.inl ⟨by omega, by omega⟩)
theorem HI.qn (I : HI K P c N s) {p : Int} (hp : 0 ≤ p ∧ p < 6) : 0 ≤ s (115 + p) ∧ s (115 + p) ≤ c := (I.hq.2 p hp.1 hp.2).1
theorem HI.sn (I : HI K P c N s) {p : Int} (hp : 0 ≤ p ∧ p < 6) : 0 ≤ s (511 + p) ∧ s (511 + p) ≤ 4 := (I.hs p hp.1 hp.2).1
theorem HI.qe (I : HI K P c N s) {p i : Int} (hp : 0 ≤ p ∧ p < 6) (hi : 0 ≤ i ∧ i < s (115 + p)) : QE K s p i := (I.hq.2 p hp.1 hp.2).2 i hi.1 hi.2
theorem HI.se (I : HI K P c N s) {p i : Int} (hp : 0 ≤ p ∧ p < 6) (hi : 0 ≤ i ∧ i < s (511 + p)) : SE K s p i := (I.hs p hp.1 hp.2).2 i hi.1 hi.2
theorem HI.td (I : HI K P c N s) {p k : Int} (hp : 0 ≤ p ∧ p < 6) (hk : 0 ≤ k ∧ k < 8) : 0 ≤ td s p k ∧ td s p k ≤ 99 := I.ht p k hp.1 hp.2 hk.1 hk.2
theorem HI.kn (I : HI K P c N s) {k : Int} (hk : 0 ≤ k ∧ k < 8) : (0 ≤ kn s k 0 ∧ kn s k 0 ≤ 99) ∧ (0 ≤ kn s k 1 ∧ kn s k 1 ≤ 20) ∧ (0 ≤ kn s k 2 ∧ kn s k 2 ≤ 200) := I.hk k hk.1 hk.2
theorem HI.ur (I : HI K P c N s) {p k : Int} (hp : 0 ≤ p ∧ p < 6) (hk : 0 ≤ k ∧ k < 8) : (0 ≤ ur s p k ∧ ur s p k ≤ 99) ∧ InR (Jvm.Pilot.CFadingSignalsLaw_law_r4563_1f4246.kn s k 0 - Jvm.Pilot.CFadingSignalsLaw_law_r4563_1f4246.td s p k) := by
  have h1 := I.td hp hk
  have h2 := (I.kn hk).1
  unfold Jvm.Pilot.CFadingSignalsLaw_law_r4563_1f4246.ur
  refine ⟨?_, by omega, by omega⟩
  split <;> omega
theorem HIk.of (h : HIk s) (e : ∀ i, 13 ≤ i → i < 37 → s' i = s i) : HIk s' := by
  intro k h1 h2
  have := h k h1 h2
  unfold kn at this ⊢
  rw [e _ (by omega) (by omega), e _ (by omega) (by omega), e _ (by omega) (by omega)]
  exact this
theorem HIt.of (h : HIt s) (e : ∀ i, 37 ≤ i → i < 85 → s' i = s i) : HIt s' := by
  intro p k h1 h2 h3 h4
  have := h p k h1 h2 h3 h4
  unfold td at this ⊢
  rw [e _ (by omega) (by omega)]
  exact this
theorem HIm.of (h : HIm s) (e : ∀ i, 85 ≤ i → i < 91 → s' i = s i) : HIm s' := by
  intro p h1 h2
  rw [e _ (by omega) (by omega)]
  exact h p h1 h2
theorem HIo.of (h : HIo s) (e : ∀ i, 10 ≤ i → i < 13 → s' i = s i) (e1 : s' (-1) = s (-1)) (e2 : InR (s' (-2))) : HIo s' := by
  obtain ⟨h1, h2, h3, h4, h5⟩ := h
  unfold HIo
  rw [e 10 (by omega) (by omega), e 11 (by omega) (by omega), e 12 (by omega) (by omega), e1]
  exact ⟨h1, h2, h3, h4, e2⟩
theorem qv_of {p i w : Int} (e : ∀ i, 121 ≤ i → i < 511 → s' i = s i) (hp : 0 ≤ p ∧ p < 6) (hi : 0 ≤ i ∧ i < 13) (hw : 0 ≤ w ∧ w < 5) : qv s' p i w = qv s p i w := e _ (by omega) (by omega)
theorem sv_of {p i w : Int} (e : ∀ i, 517 ≤ i → i < 661 → s' i = s i) (hp : 0 ≤ p ∧ p < 6) (hi : 0 ≤ i ∧ i < 4) (hw : 0 ≤ w ∧ w < 6) : sv s' p i w = sv s p i w := e _ (by omega) (by omega)
/-- what an entry keeps: another place with the same contents -/
theorem QE.mv {p i p' i' : Int} (h : QE K s p i) (e : ∀ w, 0 ≤ w → w < 5 → qv s' p' i' w = qv s p i w) (e0 : s 0 ≤ s' 0) (e1 : s 1 ≤ s' 1) : QE K s' p' i' := by
  unfold QE at h ⊢
  rw [e 0 (by omega) (by omega), e 1 (by omega) (by omega), e 2 (by omega) (by omega), e 3 (by omega) (by omega), e 4 (by omega) (by omega)]
  omega
theorem SE.mv {p i p' i' : Int} (h : SE K s p i) (e : ∀ w, 0 ≤ w → w < 6 → sv s' p' i' w = sv s p i w) (e0 : s 0 ≤ s' 0) (e1 : s 1 ≤ s' 1) : SE K s' p' i' := by
  unfold SE at h ⊢
  rw [e 0 (by omega) (by omega), e 1 (by omega) (by omega), e 2 (by omega) (by omega), e 3 (by omega) (by omega), e 4 (by omega) (by omega), e 5 (by omega) (by omega)]
  omega
theorem HIq.of (h : HIq K c s) (e : ∀ i, 115 ≤ i → i < 511 → s' i = s i) (e0 : s 0 ≤ s' 0) (e1 : s 1 ≤ s' 1) : HIq K c s' := by
  refine ⟨h.1, fun p h1 h2 => ?_⟩
  have := h.2 p h1 h2
  have hc := h.1
  rw [e (115 + p) (by omega) (by omega)]
  refine ⟨this.1, fun i h3 h4 => (this.2 i h3 h4).mv (fun w hw hw' => ?_) e0 e1⟩
  exact qv_of (fun i h1 h2 => e i (by omega) h2) ⟨h1, h2⟩ ⟨h3, by omega⟩ ⟨hw, hw'⟩
theorem HIs.of (h : HIs K s) (e : ∀ i, 511 ≤ i → i < 661 → s' i = s i) (e0 : s 0 ≤ s' 0) (e1 : s 1 ≤ s' 1) : HIs K s' := by
  intro p h1 h2
  have := h p h1 h2
  rw [e (511 + p) (by omega) (by omega)]
  refine ⟨this.1, fun i h3 h4 => (this.2 i h3 h4).mv (fun w hw hw' => ?_) e0 e1⟩
  exact sv_of (fun i h1 h2 => e i (by omega) h2) ⟨h1, h2⟩ ⟨h3, by omega⟩ ⟨hw, hw'⟩
theorem HIr.of (h : HIr s) (e : ∀ i, 661 ≤ i → i < 861 → s' i = s i) (e0 : s 0 ≤ s' 0) (e1 : s 1 ≤ s' 1) (e2 : s' 2 = s 2) : HIr s' := by
  intro j h1 h2 h3
  rw [e2] at h3
  have := h j h1 h2 h3
  have g : ∀ w, 0 ≤ w → w < 5 → rv s' j w = rv s j w := fun w hw hw' => e _ (by omega) (by omega)
  rw [g 0 (by omega) (by omega), g 1 (by omega) (by omega), g 2 (by omega) (by omega), g 3 (by omega) (by omega), g 4 (by omega) (by omega)]
  omega
theorem HIz.of (hK : 0 ≤ K) (hP : 0 ≤ P) (h : HIz K P s) (e : ∀ p, P ≤ p → p < 6 → s' (115 + p) = s (115 + p) ∧ s' (511 + p) = s (511 + p)) (e2 : ∀ i, 37 ≤ i → i < 85 → s' i = s i) : HIz K P s' := by
  refine ⟨fun p h1 h2 => ?_, fun p k h1 h2 h3 h4 => ?_⟩
  · rw [(e p h1 h2).1, (e p h1 h2).2]
    exact h.1 p h1 h2
  · have := h.2 p k h1 h2 h3 h4
    unfold td at this ⊢
    rw [e2 _ (by omega) (by omega)]
    exact this
theorem HId.of (hq : HIq K c s) (hs : HIs K s) (h : HId s) (e : ∀ i, 115 ≤ i → i < 661 → s' i = s i) : HId s' := by
  have hc := hq.1
  have g1 : ∀ p, 0 ≤ p → p < 6 → s' (115 + p) = s (115 + p) := fun p _ _ => e _ (by omega) (by omega)
  have g2 : ∀ p, 0 ≤ p → p < 6 → s' (511 + p) = s (511 + p) := fun p _ _ => e _ (by omega) (by omega)
  refine ⟨fun p i q j h1 h2 h3 h4 h5 h6 h7 h8 => ?_, fun p i q j h1 h2 h3 h4 h5 h6 h7 h8 => ?_⟩
  · rw [g1 p h1 h2] at h4
    rw [g1 q h5 h6] at h8
    have q1 := (hq.2 p h1 h2).1.2
    have q2 := (hq.2 q h5 h6).1.2
    rw [qv_of (fun i h1 h2 => e i (by omega) (by omega)) ⟨h1, h2⟩ ⟨h3, by omega⟩ ⟨by omega, by omega⟩, qv_of (fun i h1 h2 => e i (by omega) (by omega)) ⟨h5, h6⟩ ⟨h7, by omega⟩ ⟨by omega, by omega⟩]
    exact h.1 p i q j h1 h2 h3 h4 h5 h6 h7 h8
  · rw [g1 p h1 h2] at h4
    rw [g2 q h5 h6] at h8
    have q1 := (hq.2 p h1 h2).1.2
    have q2 := (hs q h5 h6).1.2
    rw [qv_of (fun i h1 h2 => e i (by omega) (by omega)) ⟨h1, h2⟩ ⟨h3, by omega⟩ ⟨by omega, by omega⟩, sv_of (fun i h1 h2 => e i (by omega) (by omega)) ⟨h5, h6⟩ ⟨h7, by omega⟩ ⟨by omega, by omega⟩]
    exact h.2 p i q j h1 h2 h3 h4 h5 h6 h7 h8
theorem HIc.mono {N' : Int} (h : HIc s N) (hN : N ≤ N') : HIc s N' := fun e he => by
  have := h e he
  omega
theorem HI.mono {N' : Int} (I : HI K P c N s) (hN : N ≤ N') : HI K P c N' s := ⟨I.hk, I.ht, I.hm, I.hc.mono hN, I.hq, I.hs, I.hr, I.hz, I.hd, I.ho⟩
theorem HIq.wide {c' : Int} (h : HIq K c s) (h1 : c ≤ c') (h2 : c' ≤ 13) : HIq K c' s := ⟨h2, fun p a b => ⟨by have := (h.2 p a b).1; omega, (h.2 p a b).2⟩⟩
theorem HI.wide {c' : Int} (I : HI K P c N s) (h1 : c ≤ c') (h2 : c' ≤ 13) : HI K P c' N s := ⟨I.hk, I.ht, I.hm, I.hc, I.hq.wide h1 h2, I.hs, I.hr, I.hz, I.hd, I.ho⟩
end HINV
