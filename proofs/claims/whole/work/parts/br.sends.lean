/-! sends do not ask for masks, nor for kinds from K on -/
theorem snd_D2 {D D' : Nat → Int → Int} (q : D' 0 2 = D 0 2) (s : Int → Int) (p k v w : Int) : e_snd D' s p k v w = e_snd D s p k v w := by
  simp only [e_snd]
  rw [q]
theorem bse_D {D D' : Nat → Int → Int} (q : D' 0 2 = D 0 2) : ∀ (n : Nat) (k : Int) (s : Int → Int), (∀ e, 3 * k ≤ e → e < 3 * (k + n) → D' 18 e = D 18 e) → bse D' n k s = bse D n k s
  | 0, _, _, _ => rfl
  | n + 1, k, s, h => by
    show bse D' n (k + 1) (e_snd D' s (D' 18 (3 * k)) (D' 18 (3 * k + 1)) (D' 18 (3 * k + 2)) (-1)) = bse D n (k + 1) (e_snd D s (D 18 (3 * k)) (D 18 (3 * k + 1)) (D 18 (3 * k + 2)) (-1))
    rw [snd_D2 q, h (3 * k) (by omega) (by omega), h (3 * k + 1) (by omega) (by omega), h (3 * k + 2) (by omega) (by omega)]
    exact bse_D q n (k + 1) _ (fun e a b => h e (by omega) (by omega))
theorem bse_last {D : Nat → Int → Int} : ∀ (n : Nat) (k : Int) (s : Int → Int), bse D (n + 1) k s = e_snd D (bse D n k s) (D 18 (3 * (k + n))) (D 18 (3 * (k + n) + 1)) (D 18 (3 * (k + n) + 2)) (-1)
  | 0, k, s => by
    show e_snd D s (D 18 (3 * k)) (D 18 (3 * k + 1)) (D 18 (3 * k + 2)) (-1) = e_snd D s (D 18 (3 * (k + ((0 : Nat) : Int)))) (D 18 (3 * (k + ((0 : Nat) : Int)) + 1)) (D 18 (3 * (k + ((0 : Nat) : Int)) + 2)) (-1)
    rw [show k + ((0 : Nat) : Int) = k by omega]
  | n + 1, k, s => by
    have ih := bse_last (D := D) n (k + 1) (e_snd D s (D 18 (3 * k)) (D 18 (3 * k + 1)) (D 18 (3 * k + 2)) (-1))
    have e1 : bse D (n + 1 + 1) k s = bse D (n + 1) (k + 1) (e_snd D s (D 18 (3 * k)) (D 18 (3 * k + 1)) (D 18 (3 * k + 2)) (-1)) := rfl
    have e2 : bse D (n + 1) k s = bse D n (k + 1) (e_snd D s (D 18 (3 * k)) (D 18 (3 * k + 1)) (D 18 (3 * k + 2)) (-1)) := rfl
    rw [e1, ih, e2, show k + 1 + (n : Int) = k + ((n + 1 : Nat) : Int) by omega]
def ZK (K e : Int) : Prop := (13 ≤ e ∧ 13 + 3 * K ≤ e ∧ e < 37) ∨ (85 ≤ e ∧ e < 91)
/-- the same but for masks and the numbers of kinds from K on -/
def SM (K : Int) (s s' : Int → Int) : Prop := ∀ e, ¬ ZK K e → s' e = s e
theorem ite_eq2 {g t a a' b b' : Int} (h : a' = a) (h' : b' = b) : (if g = a' then t else b') = (if g = a then t else b) := by rw [h, h']
section SM
variable {K : Int} {s s' : Int → Int}
theorem SM.at (S : SM K s s') {e : Int} (h : e < 13 ∨ 37 ≤ e) (h' : e < 85 ∨ 91 ≤ e) : s' e = s e := S e (by unfold ZK; omega)
theorem SM.ups (S : SM K s s') (i : Int) {u u' : Int} (h : u' = u) : SM K (ups s i u) (Jvm.Pilot.CFadingSignalsLaw_law_r4563_1f4246.ups s' i u') := fun e z => by
  by_cases c : e = i
  · rw [c, ups_eq, ups_eq, h]
  · rw [ups_ne c, ups_ne c]
    exact S e z
theorem SM.inc (S : SM K s s') (i : Int) (h : i < 13 ∨ 37 ≤ i) (h' : i < 85 ∨ 91 ≤ i) (w : Int) : SM K (Jvm.Pilot.CFadingSignalsLaw_law_r4563_1f4246.ups s i (s i + w)) (Jvm.Pilot.CFadingSignalsLaw_law_r4563_1f4246.ups s' i (s' i + w)) := S.ups i (by rw [S.at h h'])
theorem SM.sfl (S : SM K s s') {d i : Int} {n m : Nat} (hd : 0 < d) (hi : 91 ≤ i) (h : m = n) : SM K (Jvm.Pilot.CFadingSignalsLaw_law_r4563_1f4246.sfl d n i s) (Jvm.Pilot.CFadingSignalsLaw_law_r4563_1f4246.sfl d m i s') := fun e z => by
  rw [h, sfl_at hd, sfl_at hd]
  by_cases c : i ≤ e ∧ e < i + n
  · rw [if_pos c, if_pos c]
    exact S.at (by omega) (by omega)
  · rw [if_neg c, if_neg c]
    exact S e z
theorem SM.snd0 (S : SM K s s') {p k v a : Int} (hp : 0 ≤ p ∧ p < 6) : SM K (e_snd0 s p k v (-1) a) (e_snd0 s' p k v (-1) a) := by
  have S1 := S.ups (a + 0) (S.at (e := 1) (by omega) (by omega))
  have S2 := S1.ups (a + 1) (rfl : k = k)
  have S3 := S2.ups (a + 2) (rfl : (-1 : Int) = -1)
  have S4 := S3.ups (a + 3) (rfl : v = v)
  have S5 := S4.ups (a + 4) (S4.at (e := 0) (by omega) (by omega))
  have S6 := S5.inc (115 + p) (by omega) (by omega) 1
  have S7 := S6.inc 1 (by omega) (by omega) 1
  have S8 := S7.inc (91 + 4 * p + 0) (by omega) (by omega) 1
  simp only [e_snd0, e_cnt, if_true]
  exact S8
theorem SM.lv (S : SM K s s') {p k : Int} (hp : 0 ≤ p ∧ p < 6) (hk : 0 ≤ k) : SM K (e_lv s p k) (e_lv s' p k) := by
  have S1 := S.inc (115 + p) (by omega) (by omega) (-1)
  have e1 := S1.at (e := 115 + p) (by omega) (by omega)
  simp only [e_lv]
  exact SM.sfl S1 (by omega) (by omega) (congrArg (fun z => (5 * (z - k)).toNat) e1)
theorem SM.ends (S : SM K s s') {g t p k : Int} (ht : 0 ≤ t ∧ t < 6) (hp : 0 ≤ p ∧ p < 6) : SM K (e_ends s g t p k) (e_ends s' g t p k) := by
  have e2 := S.at (e := 2) (by omega) (by omega)
  simp only [e_ends, e_end0, e_cnt]
  rw [e2]
  generalize 661 + 5 * Int.tmod (s 2) 40 = a
  have S1 := S.ups a (rfl : g = g)
  have S2 := S1.ups (a + 1) (rfl : t = t)
  have S3 := S2.ups (a + 2) (S2.at (e := 0) (by omega) (by omega))
  have S4 := S3.ups (a + 3) (rfl : p = p)
  have S5 := S4.ups (a + 4) (rfl : k = k)
  have S6 := S5.inc 2 (by omega) (by omega) 1
  have S7 := S6.inc (4 + t) (by omega) (by omega) 1
  have S8 := S7.inc (91 + 4 * p + (if t = 0 then 2 else 3)) (by split <;> omega) (by split <;> omega) 1
  exact S8.ups (-2) (ite_eq2 (S8.at (e := -1) (by omega) (by omega)) (S8.at (e := -2) (by omega) (by omega)))
theorem SM.qv (S : SM K s s') {p i w : Int} (hp : 0 ≤ p) (hi : 0 ≤ i) (hw : 0 ≤ w) : Jvm.Pilot.CFadingSignalsLaw_law_r4563_1f4246.qv s' p i w = Jvm.Pilot.CFadingSignalsLaw_law_r4563_1f4246.qv s p i w := S.at (by omega) (by omega)
theorem SM.ur (S : SM K s s') {p k : Int} (hp : 0 ≤ p ∧ p < 6) (hk : 0 ≤ k ∧ k < 8) (hkK : k < K) : Jvm.Pilot.CFadingSignalsLaw_law_r4563_1f4246.ur s' p k = Jvm.Pilot.CFadingSignalsLaw_law_r4563_1f4246.ur s p k := by
  have e1 : kn s' k 0 = kn s k 0 := S _ (by unfold ZK; omega)
  have e2 : td s' p k = td s p k := S.at (by omega) (by omega)
  unfold Jvm.Pilot.CFadingSignalsLaw_law_r4563_1f4246.ur
  rw [e1, e2]
end SM
theorem cntl_cong {s s' : Int → Int} {p k : Int} : ∀ (n : Nat) (o acc : Int), (∀ j, o ≤ j → j < o + n → ahd s' p j k = ahd s p j k) → cntl s' p k n o acc = cntl s p k n o acc
  | 0, _, _, _ => rfl
  | n + 1, o, acc, h => by
    show cntl s' p k n (o + 1) (acc + (if o = k then 0 else ahd s' p o k)) = cntl s p k n (o + 1) (acc + (if o = k then 0 else ahd s p o k))
    rw [h o (by omega) (by omega)]
    exact cntl_cong n (o + 1) _ (fun j a b => h j (by omega) (by omega))
theorem plcl_cong {s s' : Int → Int} {p x : Int} (e : s' (115 + p) = s (115 + p)) (h : ∀ i j, 0 ≤ i → i < s (115 + p) → 0 ≤ j → j < s (115 + p) → ahd s' p i j = ahd s p i j) : ∀ (n : Nat) (k : Int), 0 ≤ k → k + n ≤ s (115 + p) → plcl s' p x n k = plcl s p x n k
  | 0, _, _, _ => rfl
  | n + 1, k, h0, h1 => by
    show (if cntl s' p k (s' (115 + p)).toNat 0 0 = x then k else plcl s' p x n (k + 1)) = (if cntl s p k (s (115 + p)).toNat 0 0 = x then k else plcl s p x n (k + 1))
    rw [e, cntl_cong _ 0 0 (fun j a b => h j k a (by omega) h0 (by omega)), plcl_cong e h n (k + 1) (by omega) (by omega)]
section SND
variable {K P N : Int} {D : Nat → Int → Int} {s s' : Int → Int} {p k v : Int}
theorem snd_Z (I : HI K P (D 0 2) N s) (hD : D 0 2 ≤ 12) (hK : 0 ≤ K ∧ K ≤ 8) (hP : 0 ≤ P ∧ P ≤ 6) (hp : 0 ≤ p ∧ p < P) (hk' : 0 ≤ k ∧ k < K) (hv : 0 ≤ v ∧ v < 1000) {e : Int} (he : (13 ≤ e ∧ e < 37) ∨ (85 ≤ e ∧ e < 91)) : e_snd D s p k v (-1) e = s e := by
  have hp6 : 0 ≤ p ∧ p < 6 := by omega
  have q0 := I.qn hp6
  have ha : 121 ≤ 121 + 5 * (13 * p + s (115 + p)) ∧ 121 + 5 * (13 * p + s (115 + p)) ≤ 506 := by omega
  have sz := snd0_sz (s := s) (k := k) (v := v) (b := -1) hp6 (by omega) ha
  simp only [e_snd]
  split
  · rename_i hlt
    have I1 := snd0_HI (v := v) (b := -1) (c' := D 0 2 + 1) I hK.1 hP hp hk' hv (by omega) (by omega) (by omega) (fun q h1 h2 _ => by have := I.qn ⟨h1, h2⟩; omega) (by omega)
    have pr := (plc_spec (s := e_snd0 s p k v (-1) (121 + 5 * (13 * p + s (115 + p)))) (p := p) (x := e_snd0 s p k v (-1) (121 + 5 * (13 * p + s (115 + p))) (115 + p) - 1) ⟨by omega, by omega⟩).1
    rw [eiq_ne I1 hp6 pr (by omega) (by omega) (by omega) (by omega) (by omega) (by omega) (by omega) (by omega)]
    exact snd0_ne hp6 (by omega) ha (by omega) (by omega) (by omega) (by omega)
  · exact snd0_ne hp6 (by omega) ha (by omega) (by omega) (by omega) (by omega)
theorem SM.snd (S : SM K s s') (I : HI K P (D 0 2) N s) (hD : D 0 2 ≤ 12) (hK : 0 ≤ K ∧ K ≤ 8) (hP : 0 ≤ P ∧ P ≤ 6) (hp : 0 ≤ p ∧ p < P) (hk' : 0 ≤ k ∧ k < K) (hv : 0 ≤ v ∧ v < 1000) : SM K (e_snd D s p k v (-1)) (e_snd D s' p k v (-1)) := by
  have hp6 : 0 ≤ p ∧ p < 6 := by omega
  have q0 := I.qn hp6
  have e5 := S.at (e := 115 + p) (by omega) (by omega)
  have ha : 121 ≤ 121 + 5 * (13 * p + s (115 + p)) ∧ 121 + 5 * (13 * p + s (115 + p)) ≤ 506 := by omega
  have sz := snd0_sz (s := s) (k := k) (v := v) (b := -1) hp6 (by omega) ha
  simp only [e_snd]
  rw [e5]
  have S0 := S.snd0 (k := k) (v := v) (a := 121 + 5 * (13 * p + s (115 + p))) hp6
  have r5 := S0.at (e := 115 + p) (by omega) (by omega)
  rw [r5]
  by_cases hlt : D 0 2 < e_snd0 s p k v (-1) (121 + 5 * (13 * p + s (115 + p))) (115 + p)
  · rw [if_pos hlt, if_pos hlt]
    have I1 := snd0_HI (v := v) (b := -1) (c' := D 0 2 + 1) I hK.1 hP hp hk' hv (by omega) (by omega) (by omega) (fun q h1 h2 _ => by have := I.qn ⟨h1, h2⟩; omega) (by omega)
    generalize e_snd0 s p k v (-1) (121 + 5 * (13 * p + s (115 + p))) = r at S0 r5 hlt I1 sz ⊢
    generalize e_snd0 s' p k v (-1) (121 + 5 * (13 * p + s (115 + p))) = r' at S0 r5 ⊢
    have pr := (plc_spec (s := r) (p := p) (x := r (115 + p) - 1) ⟨by omega, by omega⟩).1
    have ah : ∀ i j, 0 ≤ i → i < r (115 + p) → 0 ≤ j → j < r (115 + p) → ahd r' p i j = ahd r p i j := by
      intro i j a b c d
      have qi := (I1.qe hp6 ⟨a, b⟩).2.1
      have qj := (I1.qe hp6 ⟨c, d⟩).2.1
      unfold ahd
      rw [S0.qv hp6.1 a (by decide), S0.qv hp6.1 c (by decide), S0.ur hp6 ⟨qi.1, by omega⟩ qi.2, S0.ur hp6 ⟨qj.1, by omega⟩ qj.2]
    have pl : plc r' p (r (115 + p) - 1) = plc r p (r (115 + p) - 1) := by
      unfold plc
      rw [r5]
      exact plcl_cong r5 ah _ 0 (by omega) (by omega)
    rw [pl]
    unfold e_eiq
    rw [S0.qv hp6.1 pr.1 (by decide), S0.qv hp6.1 pr.1 (by decide)]
    exact (S0.lv hp6 pr.1).ends (by omega) hp6
  · rw [if_neg hlt, if_neg hlt]
    exact S0
end SND
/-- all the sends -/
theorem bse_SM {X : Nat → Int → Int} {K P : Int} (hD : X 0 2 ≤ 12) (hK : 0 ≤ K ∧ K ≤ 8) (hP : 0 ≤ P ∧ P ≤ 6) : ∀ (n : Nat) (k N N' : Int) (s s' : Int → Int), (∀ i, k ≤ i → i < k + n → (0 ≤ X 18 (3 * i) ∧ X 18 (3 * i) < P) ∧ (0 ≤ X 18 (3 * i + 1) ∧ X 18 (3 * i + 1) < K) ∧ (0 ≤ X 18 (3 * i + 2) ∧ X 18 (3 * i + 2) ≤ 999)) → HI K P (X 0 2) N s → HI K P (X 0 2) N' s' → SM K s s' → SM K (bse X n k s) (bse X n k s') ∧ ∀ e, (13 ≤ e ∧ e < 37) ∨ (85 ≤ e ∧ e < 91) → bse X n k s e = s e ∧ bse X n k s' e = s' e
  | 0, _, _, _, _, _, _, _, _, S => ⟨S, fun _ _ => ⟨rfl, rfl⟩⟩
  | n + 1, k, N, N', s, s', h, I, I', S => by
    have q := h k (by omega) (by omega)
    have I2 := snd_HI (v := X 18 (3 * k + 2)) (b := -1) I hD hK hP q.1 q.2.1 (by omega) (by omega)
    have I2' := snd_HI (v := X 18 (3 * k + 2)) (b := -1) I' hD hK hP q.1 q.2.1 (by omega) (by omega)
    have r := bse_SM hD hK hP n (k + 1) _ _ _ _ (fun i a b => h i (by omega) (by omega)) I2 I2' (S.snd I hD hK hP q.1 q.2.1 (by omega))
    refine ⟨r.1, fun e he => ⟨(r.2 e he).1.trans (snd_Z I hD hK hP q.1 q.2.1 (by omega) he), (r.2 e he).2.trans (snd_Z I' hD hK hP q.1 q.2.1 (by omega) he)⟩⟩
