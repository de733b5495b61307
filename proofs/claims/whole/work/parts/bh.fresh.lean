/-! cells that are made one behind another -/
/-- one cell is as it was -/
def SC (h h' : PH) (r : Nat) : Prop := h'.2.1 r = h.2.1 r ∧ ∀ k, hi h' r k = hi h r k ∧ hr h' r k = hr h r k
theorem SC.refl (h : PH) (r : Nat) : SC h h r := ⟨rfl, fun _ => ⟨rfl, rfl⟩⟩
theorem SC.trans {h1 h2 h3 : PH} {r : Nat} (A : SC h1 h2 r) (B : SC h2 h3 r) : SC h1 h3 r := ⟨B.1.trans A.1, fun k => ⟨(B.2 k).1.trans (A.2 k).1, (B.2 k).2.trans (A.2 k).2⟩⟩
theorem SC.k {h h' : PH} {r : Nat} (A : SC h h' r) : hk h' r = hk h r := by unfold hk; rw [A.1]
theorem SC.l {h h' : PH} {r : Nat} (A : SC h h' r) : hl h' r = hl h r := by unfold hl; rw [A.1]
theorem Sa.sc {b n : Nat} {h0 h : PH} (S : Sa b n h0 h) {r : Nat} (hr' : ¬ (b ≤ r ∧ r < b + n)) : SC h0 h r := ⟨by rw [S.2.1], fun k => ⟨S.2.2.2 r k hr', S.er r k⟩⟩
theorem Bx.sc {n : Nat} {K L : Nat → Nat} {RF : List (Nat × Nat × Nat)} {b : Nat} {h0 h : PH} {E : Nat → Int → Int} (B : Bx n K L RF b h0 h0 E) (S : ∀ r, b ≤ r → r < b + n → SC h0 h r) (hR : ∀ q ∈ RF, q.1 < n) : Bx n K L RF b h h E := by
  obtain ⟨m1, m2, m3⟩ := B
  refine ⟨⟨m1.1, fun j hj => ?_, fun q hq => ?_⟩, Sa.rfl', fun j e hj he => ?_⟩
  · have s := S (b + j) (by omega) (by omega)
    rw [s.k, s.l]; exact m1.2.1 j hj
  · have := hR q hq
    rw [((S (b + q.1) (by omega) (by omega)).2 _).2]; exact m1.2.2 q hq
  · rw [((S (b + j) (by omega) (by omega)).2 _).1]; exact m3 j e hj he
/-- m cells from a on, new: their kinds, lengths, ints, references; all below a as at h0 -/
def AL (h0 h : PH) (a m : Nat) (K L : Nat → Nat) (E : Nat → Int → Int) (V : Nat → Nat → Nat) : Prop :=
  h.1 = a + m ∧ (∀ r, r < a → SC h0 h r) ∧ ∀ j, j < m → (hk h (a + j) = K j ∧ hl h (a + j) = L j) ∧ (∀ e : Int, 0 ≤ e → hi h (a + j) e.toNat = E j e) ∧ ∀ f, hr h (a + j) f = V j f
def vst (V : Nat → Nat → Nat) (j f v : Nat) : Nat → Nat → Nat := fun j' f' => if j' = j ∧ f' = f then v else V j' f'
section AL
variable {h0 h : PH} {a m : Nat} {K L : Nat → Nat} {E : Nat → Int → Int} {V : Nat → Nat → Nat}
theorem AL.n (A : AL h0 h a m K L E V) : hn h = a + m := A.1
theorem AL.k (A : AL h0 h a m K L E V) {j : Nat} (hj : j < m) : hk h (a + j) = K j := (A.2.2 j hj).1.1
theorem AL.l (A : AL h0 h a m K L E V) {j : Nat} (hj : j < m) : hl h (a + j) = L j := (A.2.2 j hj).1.2
theorem AL.i (A : AL h0 h a m K L E V) {j f : Nat} (hj : j < m) : hi h (a + j) f = E j f := by
  have := (A.2.2 j hj).2.1 f (by omega)
  rwa [Int.toNat_natCast] at this
theorem AL.begin (h : PH) (kd len : Nat) (K L : Nat → Nat) (hK : K 0 = kd) (hL : L 0 = len) : AL h (hnew h kd len) (hn h) 1 K L (fun _ _ => 0) (fun _ _ => 0) := by
  refine ⟨rfl, fun r hr' => ?_, fun j hj => ?_⟩
  · refine ⟨if_neg (by unfold hn at hr'; omega), fun k => ⟨if_neg (by unfold hn at hr'; omega), if_neg (by unfold hn at hr'; omega)⟩⟩
  · have : j = 0 := by omega
    subst this
    rw [Nat.add_zero]
    have e : (hnew h kd len).2.1 (hn h) = (kd, len) := if_pos rfl
    refine ⟨⟨?_, ?_⟩, fun e' _ => if_pos rfl, fun f => if_pos rfl⟩
    · unfold hk; rw [e, hK]
    · unfold hl; rw [e, hL]
theorem AL.new (A : AL h0 h a m K L E V) (kd len : Nat) (hK : K m = kd) (hL : L m = len) (hE : ∀ e, E m e = 0) (hV : ∀ f, V m f = 0) {P : PH → Prop} (H : ∀ h', AL h0 h' a (m + 1) K L E V → P h') : ∀ h', h' = hnew h kd len → P h' := by
  intro h' q
  subst q
  obtain ⟨a1, a2, a3⟩ := A
  refine H _ ⟨by show h.1 + 1 = _; omega, fun r hr' => (a2 r hr').trans ⟨if_neg (by omega), fun k => ⟨if_neg (by omega), if_neg (by omega)⟩⟩, fun j hj => ?_⟩
  by_cases z : j = m
  · subst z
    have e : (hnew h kd len).2.1 (a + j) = (kd, len) := if_pos (by omega)
    refine ⟨⟨?_, ?_⟩, fun e' _ => ?_, fun f => ?_⟩
    · unfold hk; rw [e, hK]
    · unfold hl; rw [e, hL]
    · rw [hE]; exact if_pos (by omega)
    · rw [hV]; exact if_pos (by omega)
  · have b := a3 j (by omega)
    have e : (hnew h kd len).2.1 (a + j) = h.2.1 (a + j) := if_neg (by omega)
    refine ⟨⟨?_, ?_⟩, fun e' he => ?_, fun f => ?_⟩
    · unfold hk; rw [e]; exact b.1.1
    · unfold hl; rw [e]; exact b.1.2
    · rw [← b.2.1 e' he]; exact if_neg (by omega)
    · rw [← b.2.2 f]; exact if_neg (by omega)
theorem AL.pr (A : AL h0 h a m K L E V) (j f v k : Nat) (hj : j < m) (hk' : K j = k) {P : PH → Prop} (H : ∀ h', AL h0 h' a m K L E (vst V j f v) → P h') : hk h (a + j) = k ∧ (∀ h', h' = hsr h (a + j) f v → P h') := by
  refine ⟨by rw [← hk']; exact A.k hj, fun h' q => H h' ?_⟩
  subst q
  obtain ⟨a1, a2, a3⟩ := A
  refine ⟨a1, fun r hr' => (a2 r hr').trans ⟨rfl, fun k => ⟨rfl, if_neg (by omega)⟩⟩, fun j' hj' => ⟨(a3 j' hj').1, (a3 j' hj').2.1, fun f' => ?_⟩⟩
  show (if a + j' = a + j ∧ f' = f then v else h.2.2.2 (a + j') f') = vst V j f v j' f'
  unfold vst
  by_cases z : j' = j ∧ f' = f
  · rw [if_pos ⟨by omega, z.2⟩, if_pos z]
  · rw [if_neg (by omega), if_neg z]
    exact (a3 j' hj').2.2 f'
theorem AL.pi (A : AL h0 h a m K L E V) (j f k : Nat) {v : Int} (hj : j < m) (hk' : K j = k) {P : PH → Prop} (H : ∀ h', AL h0 h' a m K L (dst E j f v) V → P h') : hk h (a + j) = k ∧ (∀ h', h' = hsi h (a + j) f v → P h') := by
  refine ⟨by rw [← hk']; exact A.k hj, fun h' q => H h' ?_⟩
  subst q
  obtain ⟨a1, a2, a3⟩ := A
  refine ⟨a1, fun r hr' => (a2 r hr').trans ⟨rfl, fun k => ⟨if_neg (by omega), rfl⟩⟩, fun j' hj' => ⟨(a3 j' hj').1, fun e he => ?_, (a3 j' hj').2.2⟩⟩
  show (if a + j' = a + j ∧ e.toNat = f then v else h.2.2.1 (a + j') e.toNat) = dst E j f v j' e
  unfold dst ups
  by_cases z : j' = j
  · subst z
    rw [if_pos rfl]
    by_cases y : e = f
    · rw [if_pos ⟨rfl, by omega⟩, if_pos y]
    · rw [if_neg (by omega), if_neg y]
      exact (a3 j' hj').2.1 e he
  · rw [if_neg (by omega), if_neg z]
    exact (a3 j' hj').2.1 e he
/-- a finished block -/
theorem AL.bx (A : AL h0 h a m K L E V) {RF : List (Nat × Nat × Nat)} (ha : a ≠ 0) (hR : ∀ q ∈ RF, q.1 < m ∧ V q.1 q.2.1 = a + q.2.2) : Bx m K L RF a h h E :=
  ⟨⟨ha, fun j hj => (A.2.2 j hj).1, fun q hq => ((A.2.2 q.1 (hR q hq).1).2.2 _).trans (hR q hq).2⟩, Sa.rfl', fun j e hj he => (A.2.2 j hj).2.1 e he⟩
theorem AL.cast (A : AL h0 h a m K L E V) {a' m' : Nat} (e : m = m') : AL h0 h a m' K L E V := e ▸ A
end AL
