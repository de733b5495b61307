/-! stores and new cells, in the plain heap and in the machine's -/
theorem hi_hsi_ne {h : PH} {a i : Nat} {x : Int} {r : Nat} (e : r ≠ a) : hi (hsi h a i x) r = hi h r := by
  funext j
  show (if r = a ∧ j = i then x else hi h r j) = _
  rw [if_neg (fun q => e q.1)]
theorem hi_hsi_eq {h : PH} {a i : Nat} {x : Int} {j : Nat} : hi (hsi h a i x) a j = if j = i then x else hi h a j := by
  show (if a = a ∧ j = i then x else hi h a j) = _
  simp
theorem hr_hsr_ne {h : PH} {a i : Nat} {x : Nat} {r : Nat} (e : r ≠ a) : hr (hsr h a i x) r = hr h r := by
  funext j
  show (if r = a ∧ j = i then x else hr h r j) = _
  rw [if_neg (fun q => e q.1)]
theorem hr_hsr_eq {h : PH} {a i : Nat} {x : Nat} {j : Nat} : hr (hsr h a i x) a j = if j = i then x else hr h a j := by
  show (if a = a ∧ j = i then x else hr h a j) = _
  simp
theorem cOK_congr {θ : TH} {h h' : PH} {r : Nat} {cell : Cell} (e1 : hk h' r = hk h r) (e2 : hl h' r = hl h r) (e3 : hi h' r = hi h r) (e4 : hr h' r = hr h r) (q : cOK θ h r cell) : cOK θ h' r cell := by
  unfold cOK aOK oOK at q ⊢
  rw [e1, e2, e3, e4]
  exact q
theorem sOK_congr {h h' : PH} {r : Nat} (e2 : hl h' r = hl h r) (e3 : hi h' r = hi h r) (q : sOK h r) : sOK h' r := by
  unfold sOK at q ⊢
  rw [e2, e3]
  exact q
theorem tad_lo {θ : TH} {r : Nat} (h : r < 64) : tad θ r = θ.2.1 r := if_pos h
theorem tad_hi {θ : TH} {r : Nat} (h : 64 ≤ r) : tad θ r = θ.1.heap.size + (r - 64) := if_neg (Nat.not_lt.mpr h)
theorem Rep.ne {θ : TH} {h : PH} {H : Heap} (hR : Rep θ h H) {r q : Nat} (h64 : 64 ≤ r) (hq : hk h q ≠ 0) (hne : q ≠ r) : tad θ q ≠ tad θ r := by
  rw [tad_hi h64]
  by_cases hq64 : q < 64
  · rw [tad_lo hq64]
    have := ((hR.2.2.2 q hq).2.2.1 hq64).2
    omega
  · rw [tad_hi (by omega)]
    omega
theorem Rep.put {θ : TH} {h h' : PH} {H H' : Heap} {r : Nat} {cell' : Cell} (hR : Rep θ h H) (h64 : 64 ≤ r) (hk0 : hk h r ≠ 0) (e0 : hn h' = hn h) (ek : ∀ q, hk h' q = hk h q) (el : ∀ q, hl h' q = hl h q) (ei : ∀ q, q ≠ r → hi h' q = hi h q ∧ hr h' q = hr h q)
    (hc : H'[tad θ r]? = some cell') (hok : cOK θ h' r cell') (hsz : H'.size = H.size) (ho : ∀ q, q ≠ tad θ r → H'[q]? = H[q]?) : Rep θ h' H' := by
  obtain ⟨r1, r2, r3, r4⟩ := id hR
  refine ⟨by rw [e0]; exact r1, by rw [e0, hsz]; exact r2, fun q hq => ?_, fun q hq => ?_⟩
  · rw [ho q (by rw [tad_hi h64]; omega)]
    exact r3 q hq
  · rw [ek] at hq
    obtain ⟨q1, q2, q3, q4, q5, q6⟩ := r4 q hq
    refine ⟨q1, by rw [e0]; exact q2, by rw [ek]; exact q3, by rw [ek]; exact q4, ?_, ?_⟩
    · rw [ek]
      intro e27
      have hqr : q ≠ r := by
        rintro rfl
        have := q4 h64
        omega
      exact sOK_congr (el q) (ei q hqr).1 (q5 e27)
    · rw [ek]
      intro e27
      by_cases hqr : q = r
      · subst hqr
        exact ⟨cell', hc, hok⟩
      · obtain ⟨cell, c1, c2⟩ := q6 e27
        exact ⟨cell, by rw [ho _ (hR.ne h64 hq hqr)]; exact c1, cOK_congr (ek q) (el q) (ei q hqr).1 (ei q hqr).2 c2⟩
theorem aOK.set {θ : TH} {h h' : PH} {r : Nat} {cell : Cell} {ty : FieldType} {f f' : Nat → Value} {i : Nat} {v : Value} (a : aOK θ h r cell ty f) (hi : i < hl h r) (e : hl h' r = hl h r) (e1 : f' i = v) (e2 : ∀ j, j ≠ i → f' j = f j) : aOK θ h' r (cell.setSlot i v) ty f' := by
  obtain ⟨a1, a2, a3, a4, a5⟩ := a
  refine ⟨a1, a2, ?_, by rw [e]; exact a4, fun j hj => ?_⟩
  · rw [e]
    have : (cell.setSlot i v).slots.size = cell.slots.size := by simp [Cell.setSlot]
    rw [this]
    exact a3
  · rw [e] at hj
    by_cases q : j = i
    · subst q
      rw [e1]
      have hj2 : j < cell.slots.size := Nat.lt_of_lt_of_le hj a3.1
      simp [Cell.setSlot, hj2]
    · rw [e2 j q, ← a5 j hj]
      simp [Cell.setSlot, Array.getElem?_setIfInBounds, Ne.symm q]
theorem oOK.set {θ : TH} {h h' : PH} {r ci k : Nat} {cell : Cell} {v : Value} (o : oOK θ h r cell ci) (hk : k < clN ci) (hap : ∀ x y, x < clN ci → y < clN ci → x ≠ y → θ.2.2.2 ci x ≠ θ.2.2.2 ci y)
    (e1 : eF θ ci k (hi h' r k) (hr h' r k) = v) (e2 : ∀ j, j ≠ k → hi h' r j = hi h r j ∧ hr h' r j = hr h r j) : oOK θ h' r (cell.setSlot (θ.2.2.2 ci k) v) ci := by
  obtain ⟨o1, o2, o3⟩ := o
  refine ⟨o1, o2, fun j hj => ?_⟩
  have hlt : θ.2.2.2 ci k < cell.slots.size := (Array.getElem?_eq_some_iff.mp (o3 k hk)).1
  by_cases q : j = k
  · subst q
    rw [e1]
    simp [Cell.setSlot, hlt]
  · rw [(e2 j q).1, (e2 j q).2, ← o3 j hj]
    have := hap k j hk hj (Ne.symm q)
    simp [Cell.setSlot, Array.getElem?_setIfInBounds, this]
theorem Rep.at {θ : TH} {h : PH} {H : Heap} (hR : Rep θ h H) {r : Nat} (h1 : hk h r ≠ 0) (h2 : hk h r ≠ 27) : ∃ cell, H[tad θ r]? = some cell ∧ cOK θ h r cell ∧ r ≠ 0 := by
  obtain ⟨q1, q2, q3, q4, q5, q6⟩ := hR.2.2.2 r h1
  obtain ⟨cell, c1, c2⟩ := q6 h2
  exact ⟨cell, c1, c2, q1⟩
theorem Rep.big {θ : TH} {h : PH} {H : Heap} (hR : Rep θ h H) {r : Nat} (h1 : hk h r ≠ 0) (h2 : hk h r ≠ 26) (h3 : hk h r ≠ 27) : 64 ≤ r := by
  rcases Nat.lt_or_ge r 64 with q | q
  · have := ((hR.2.2.2 r h1).2.2.1 q).1
    omega
  · exact q
/-- a new cell -/
theorem Rep.push {θ : TH} {h : PH} {H H' : Heap} {kd len : Nat} {cell : Cell} (hR : Rep θ h H) (hkd : 1 ≤ kd ∧ kd ≤ 8 ∨ 20 ≤ kd ∧ kd ≤ 25) (hc : H'[H.size]? = some cell) (hok : cOK θ (hnew h kd len) (hn h) cell) (hsz : H'.size = H.size + 1) (ho : ∀ q, q < H.size → H'[q]? = H[q]?) : Rep θ (hnew h kd len) H' := by
  obtain ⟨r1, r2, r3, r4⟩ := id hR
  have en : hn (hnew h kd len) = hn h + 1 := rfl
  refine ⟨by rw [en]; omega, by rw [en, hsz, r2]; omega, fun q hq => by rw [ho q (by omega)]; exact r3 q hq, fun q hq => ?_⟩
  by_cases e : q = hn h
  · subst e
    have ek : hk (hnew h kd len) (hn h) = kd := by simp [hk, hnew, hn]
    rw [ek]
    refine ⟨by omega, by rw [en]; omega, fun z => by omega, fun _ => by omega, fun z => by omega, fun _ => ⟨cell, ?_, hok⟩⟩
    rw [tad_hi r1, ← r2]
    exact hc
  · have e' : ¬ q = h.1 := e
    have ek : hk (hnew h kd len) q = hk h q := by simp [hk, hnew, e']
    have el : hl (hnew h kd len) q = hl h q := by simp [hl, hnew, e']
    have ei : hi (hnew h kd len) q = hi h q := by funext j; simp [hi, hnew, e']
    have er : hr (hnew h kd len) q = hr h q := by funext j; simp [hr, hnew, e']
    rw [ek] at hq ⊢
    obtain ⟨q1, q2, q3, q4, q5, q6⟩ := r4 q hq
    refine ⟨q1, by rw [en]; omega, q3, q4, fun z => sOK_congr el ei (q5 z), fun z => ?_⟩
    obtain ⟨c0, c1, c2⟩ := q6 z
    refine ⟨c0, ?_, cOK_congr ek el ei er c2⟩
    rw [ho _ (Array.getElem?_eq_some_iff.mp c1).1]
    exact c1
/-- cells of which nothing is said -/
theorem Rep.up {θ : TH} {h : PH} {H H' : Heap} (hR : Rep θ h H) (hsz : H.size ≤ H'.size) (ho : ∀ q, q < H.size → H'[q]? = H[q]?) : Rep θ (hup h (hn h + (H'.size - H.size))) H' := by
  obtain ⟨r1, r2, r3, r4⟩ := id hR
  have en : hn (hup h (hn h + (H'.size - H.size))) = hn h + (H'.size - H.size) := rfl
  refine ⟨by rw [en]; omega, by rw [en]; omega, fun q hq => by rw [ho q (by omega)]; exact r3 q hq, fun q hq => ?_⟩
  obtain ⟨q1, q2, q3, q4, q5, q6⟩ := r4 q hq
  refine ⟨q1, by rw [en]; omega, q3, q4, fun z => q5 z, fun z => ?_⟩
  obtain ⟨c0, c1, c2⟩ := q6 z
  refine ⟨c0, ?_, c2⟩
  rw [ho _ (Array.getElem?_eq_some_iff.mp c1).1]
  exact c1
