/-! the model's object in the plain heap: b its address, D its rows (row 0: its fields), s its row of the state (-1: watched, -2: watchedEnd); written by wip/whole/tools/gen50.py -/
def ups (s : Int → Int) (e v : Int) : Int → Int := fun i => if i = e then v else s i
def dst (D : Nat → Int → Int) (j : Nat) (e v : Int) : Nat → Int → Int := fun j' => if j' = j then ups (D j) e v else D j'
theorem ups_eq (s : Int → Int) (e v : Int) : ups s e v e = v := if_pos rfl
theorem ups_ne {s : Int → Int} {e v i : Int} (h : i ≠ e) : ups s e v i = s i := if_neg h
theorem ir {x : Int} (h1 : -2147483648 ≤ x) (h2 : x ≤ 2147483647) : InR x := ⟨h1, h2⟩
/-- the same cells; the same ints outside a block -/
def Sa (b n : Nat) (h0 h : PH) : Prop := h.1 = h0.1 ∧ h.2.1 = h0.2.1 ∧ h.2.2.2 = h0.2.2.2 ∧ ∀ r k, ¬ (b ≤ r ∧ r < b + n) → hi h r k = hi h0 r k
theorem Sa.rfl' {b n : Nat} {h : PH} : Sa b n h h := ⟨rfl, rfl, rfl, fun _ _ _ => rfl⟩
theorem Sa.hsi {b n : Nat} {h0 h : PH} (S : Sa b n h0 h) {r i : Nat} {v : Int} (hr : b ≤ r ∧ r < b + n) : Sa b n h0 (hsi h r i v) := by
  refine ⟨S.1, S.2.1, S.2.2.1, fun r' k hn => ?_⟩
  show (if r' = r ∧ k = i then v else h.2.2.1 r' k) = _
  rw [if_neg (fun q => hn (by rw [q.1]; exact hr))]
  exact S.2.2.2 r' k hn
theorem Sa.trans {b n : Nat} {h0 h1 h2 : PH} (S : Sa b n h0 h1) (T : Sa b n h1 h2) : Sa b n h0 h2 := ⟨T.1.trans S.1, T.2.1.trans S.2.1, T.2.2.1.trans S.2.2.1, fun r k hn => (T.2.2.2 r k hn).trans (S.2.2.2 r k hn)⟩
theorem Sa.mono {b n b' n' : Nat} {h0 h : PH} (S : Sa b n h0 h) (h1 : b' ≤ b) (h2 : b + n ≤ b' + n') : Sa b' n' h0 h := ⟨S.1, S.2.1, S.2.2.1, fun r k hn => S.2.2.2 r k (fun q => hn ⟨by omega, by omega⟩)⟩
theorem Sa.ek {b n : Nat} {h0 h : PH} (S : Sa b n h0 h) (r : Nat) : hk h r = hk h0 r := by unfold hk; rw [S.2.1]
theorem Sa.el {b n : Nat} {h0 h : PH} (S : Sa b n h0 h) (r : Nat) : hl h r = hl h0 r := by unfold hl; rw [S.2.1]
theorem Sa.er {b n : Nat} {h0 h : PH} (S : Sa b n h0 h) (r k : Nat) : hr h r k = hr h0 r k := by unfold hr; rw [S.2.2.1]
theorem hi_hsi (h : PH) (r i : Nat) (v : Int) (r' k : Nat) : hi (hsi h r i v) r' k = if r' = r ∧ k = i then v else hi h r' k := rfl
theorem toNat_inj {a b : Int} (ha : 0 ≤ a) (hb : 0 ≤ b) (h : a.toNat = b.toNat) : a = b := by omega
def MLEN : List Nat := [0, 56, 42, 48, 48, 768, 861, 861, 8610, 2, 700, 56, 42, 24, 6, 48, 48, 768, 36, 600]
def MREF : List (Nat × Nat) := [(6, 1), (7, 2), (8, 3), (9, 4), (10, 5), (11, 6), (12, 7), (13, 8), (15, 9), (16, 10), (35, 11), (36, 12), (37, 13), (38, 14), (39, 15), (40, 16), (41, 17), (42, 18), (45, 19)]
def MSh (b : Nat) (h : PH) : Prop := hk h b = 8 ∧ b ≠ 0 ∧ (∀ q ∈ MREF, hr h b q.1 = b + q.2) ∧ ∀ j, 1 ≤ j → j < 20 → hk h (b + j) = (if j = 9 then 22 else 20) ∧ hl h (b + j) = MLEN.getD j 0
def Md (b : Nat) (h0 h : PH) (D : Nat → Int → Int) (s : Int → Int) : Prop :=
  MSh b h ∧ Sa b 20 h0 h ∧ (∀ (j : Nat) (e : Int), j < 20 → j ≠ 6 → 0 ≤ e → (j = 0 → e ≠ 43 ∧ e ≠ 44) → hi h (b + j) e.toNat = D j e) ∧ (∀ e : Int, 0 ≤ e → hi h (b + 6) e.toNat = s e) ∧ hi h b 43 = s (-1) ∧ hi h b 44 = s (-2)
section MD
variable {b : Nat} {h0 h : PH} {D : Nat → Int → Int} {s : Int → Int}
theorem Md.k0 (M : Md b h0 h D s) : hk h b = 8 := M.1.1
theorem Md.b0 (M : Md b h0 h D s) : b ≠ 0 := M.1.2.1
theorem Md.row (M : Md b h0 h D s) (j : Nat) {e : Int} (hj : j < 20) (h6 : j ≠ 6) (he : 0 ≤ e) (hf : j = 0 → e ≠ 43 ∧ e ≠ 44) : hi h (b + j) e.toNat = D j e := M.2.2.1 j e hj h6 he hf
theorem Md.stD (M : Md b h0 h D s) (j : Nat) {e v : Int} (hj : j < 20) (h6 : j ≠ 6) (he : 0 ≤ e) (hf : j = 0 → e ≠ 43 ∧ e ≠ 44) : Md b h0 (hsi h (b + j) e.toNat v) (dst D j e v) s := by
  obtain ⟨m1, m2, m3, m4, m5, m6⟩ := M
  refine ⟨m1, m2.hsi ⟨by omega, by omega⟩, fun j' e' hj' h6' he' hf' => ?_, fun e' he' => ?_, ?_, ?_⟩
  · rw [hi_hsi]
    unfold dst ups
    by_cases q : j' = j
    · subst q
      rw [if_pos rfl]
      by_cases q2 : e' = e
      · subst q2
        rw [if_pos ⟨rfl, rfl⟩, if_pos rfl]
      · rw [if_neg (fun z => q2 (toNat_inj he' he z.2)), if_neg q2]
        exact m3 _ _ hj' h6' he' hf'
    · rw [if_neg q, if_neg (fun z => q (by omega))]
      exact m3 _ _ hj' h6' he' hf'
  · rw [hi_hsi, if_neg (fun z => h6 (by omega))]
    exact m4 e' he'
  · rw [hi_hsi, if_neg (fun z => (hf (by omega)).1 (by omega))]
    exact m5
  · rw [hi_hsi, if_neg (fun z => (hf (by omega)).2 (by omega))]
    exact m6
theorem Md.stS (M : Md b h0 h D s) {e v : Int} (he : 0 ≤ e) : Md b h0 (hsi h (b + 6) e.toNat v) D (ups s e v) := by
  obtain ⟨m1, m2, m3, m4, m5, m6⟩ := M
  refine ⟨m1, m2.hsi ⟨by omega, by omega⟩, fun j' e' hj' h6' he' hf' => ?_, fun e' he' => ?_, ?_, ?_⟩
  · rw [hi_hsi, if_neg (fun z => h6' (by omega))]
    exact m3 _ _ hj' h6' he' hf'
  · rw [hi_hsi]
    unfold ups
    by_cases q2 : e' = e
    · subst q2
      rw [if_pos ⟨rfl, rfl⟩, if_pos rfl]
    · rw [if_neg (fun z => q2 (toNat_inj he' he z.2)), if_neg q2]
      exact m4 e' he'
  · rw [hi_hsi, if_neg (fun z => by omega), ups_ne (by omega)]
    exact m5
  · rw [hi_hsi, if_neg (fun z => by omega), ups_ne (by omega)]
    exact m6
theorem Md.stW (M : Md b h0 h D s) {v : Int} : Md b h0 (hsi h b 43 v) D (ups s (-1) v) := by
  obtain ⟨m1, m2, m3, m4, m5, m6⟩ := M
  refine ⟨m1, m2.hsi ⟨by omega, by omega⟩, fun j' e' hj' h6' he' hf' => ?_, fun e' he' => ?_, ?_, ?_⟩
  · rw [hi_hsi, if_neg (fun z => (hf' (by omega)).1 (by omega))]
    exact m3 _ _ hj' h6' he' hf'
  · rw [hi_hsi, if_neg (fun z => by omega), ups_ne (by omega)]
    exact m4 e' he'
  · rw [hi_hsi, if_pos ⟨rfl, rfl⟩, ups_eq]
  · rw [hi_hsi, if_neg (fun z => by omega), ups_ne (by omega)]
    exact m6
theorem Md.stE (M : Md b h0 h D s) {v : Int} : Md b h0 (hsi h b 44 v) D (ups s (-2) v) := by
  obtain ⟨m1, m2, m3, m4, m5, m6⟩ := M
  refine ⟨m1, m2.hsi ⟨by omega, by omega⟩, fun j' e' hj' h6' he' hf' => ?_, fun e' he' => ?_, ?_, ?_⟩
  · rw [hi_hsi, if_neg (fun z => (hf' (by omega)).2 (by omega))]
    exact m3 _ _ hj' h6' he' hf'
  · rw [hi_hsi, if_neg (fun z => by omega), ups_ne (by omega)]
    exact m4 e' he'
  · rw [hi_hsi, if_neg (fun z => by omega), ups_ne (by omega)]
    exact m5
  · rw [hi_hsi, if_pos ⟨rfl, rfl⟩, ups_eq]
theorem Md.ldD (M : Md b h0 h D s) (j n : Nat) {e : Int} {P : Prop} (hj : 1 ≤ j ∧ j < 20 ∧ j ≠ 6 ∧ j ≠ 9) (hn : MLEN.getD j 0 = n) (h1 : 0 ≤ e) (h2 : e < n) (H : hi h (b + j) e.toNat = D j e → P) : (hk h (b + j) = 20 ∨ hk h (b + j) = 26) ∧ (0 ≤ e ∧ e < (hl h (b + j) : Int)) ∧ P := by
  obtain ⟨k1, k2⟩ := M.1.2.2.2 j hj.1 hj.2.1
  rw [if_neg hj.2.2.2] at k1
  exact ⟨Or.inl k1, ⟨h1, by rw [k2, hn]; exact h2⟩, H (M.row j hj.2.1 hj.2.2.1 h1 (fun z => absurd z (by omega)))⟩
theorem Md.asD (M : Md b h0 h D s) (j n : Nat) {e v : Int} {P : PH → Prop} (hj : 1 ≤ j ∧ j < 20 ∧ j ≠ 6 ∧ j ≠ 9) (hn : MLEN.getD j 0 = n) (h1 : 0 ≤ e) (h2 : e < n) (H : ∀ h', Md b h0 h' (dst D j e v) s → P h') : hk h (b + j) = 20 ∧ (0 ≤ e ∧ e < (hl h (b + j) : Int)) ∧ (∀ h', h' = hsi h (b + j) e.toNat v → P h') := by
  obtain ⟨k1, k2⟩ := M.1.2.2.2 j hj.1 hj.2.1
  rw [if_neg hj.2.2.2] at k1
  exact ⟨k1, ⟨h1, by rw [k2, hn]; exact h2⟩, fun h' q => H h' (by rw [q]; exact M.stD j hj.2.1 hj.2.2.1 h1 (fun z => absurd z (by omega)))⟩
theorem Md.ld6 (M : Md b h0 h D s) {e : Int} {P : Prop} (h1 : 0 ≤ e) (h2 : e < 861) (H : hi h (b + 6) e.toNat = s e → P) : (hk h (b + 6) = 20 ∨ hk h (b + 6) = 26) ∧ (0 ≤ e ∧ e < (hl h (b + 6) : Int)) ∧ P := by
  obtain ⟨k1, k2⟩ := M.1.2.2.2 6 (by decide) (by decide)
  exact ⟨Or.inl k1, ⟨h1, by rw [k2]; exact h2⟩, H (M.2.2.2.1 e h1)⟩
theorem Md.as6 (M : Md b h0 h D s) {e v : Int} {P : PH → Prop} (h1 : 0 ≤ e) (h2 : e < 861) (H : ∀ h', Md b h0 h' D (ups s e v) → P h') : hk h (b + 6) = 20 ∧ (0 ≤ e ∧ e < (hl h (b + 6) : Int)) ∧ (∀ h', h' = hsi h (b + 6) e.toNat v → P h') := by
  obtain ⟨k1, k2⟩ := M.1.2.2.2 6 (by decide) (by decide)
  exact ⟨k1, ⟨h1, by rw [k2]; exact h2⟩, fun h' q => H h' (by rw [q]; exact M.stS h1)⟩
theorem Md.ld9 (M : Md b h0 h D s) {e : Int} {P : Prop} (h1 : 0 ≤ e) (h2 : e < 2) (H : hi h (b + 9) e.toNat = D 9 e → P) : hk h (b + 9) = 22 ∧ (0 ≤ e ∧ e < (hl h (b + 9) : Int)) ∧ P := by
  obtain ⟨k1, k2⟩ := M.1.2.2.2 9 (by decide) (by decide)
  exact ⟨k1, ⟨h1, by rw [k2]; exact h2⟩, H (M.row 9 (by decide) (by decide) h1 (fun z => absurd z (by omega)))⟩
theorem Md.as9 (M : Md b h0 h D s) {e v : Int} {P : PH → Prop} (h1 : 0 ≤ e) (h2 : e < 2) (hv : v = 0 ∨ v = 1) (H : ∀ h', Md b h0 h' (dst D 9 e v) s → P h') : hk h (b + 9) = 22 ∧ (0 ≤ e ∧ e < (hl h (b + 9) : Int)) ∧ (v = 0 ∨ v = 1) ∧ (∀ h', h' = hsi h (b + 9) e.toNat v → P h') := by
  obtain ⟨k1, k2⟩ := M.1.2.2.2 9 (by decide) (by decide)
  exact ⟨k1, ⟨h1, by rw [k2]; exact h2⟩, hv, fun h' q => H h' (by rw [q]; exact M.stD 9 (by decide) (by decide) h1 (fun z => absurd z (by omega)))⟩
theorem Md.r6 (M : Md b h0 h D s) : hr h b 6 = b + 1 := M.1.2.2.1 (6, 1) (by decide)
theorem Md.r7 (M : Md b h0 h D s) : hr h b 7 = b + 2 := M.1.2.2.1 (7, 2) (by decide)
theorem Md.r8 (M : Md b h0 h D s) : hr h b 8 = b + 3 := M.1.2.2.1 (8, 3) (by decide)
theorem Md.r9 (M : Md b h0 h D s) : hr h b 9 = b + 4 := M.1.2.2.1 (9, 4) (by decide)
theorem Md.r10 (M : Md b h0 h D s) : hr h b 10 = b + 5 := M.1.2.2.1 (10, 5) (by decide)
theorem Md.r11 (M : Md b h0 h D s) : hr h b 11 = b + 6 := M.1.2.2.1 (11, 6) (by decide)
theorem Md.r12 (M : Md b h0 h D s) : hr h b 12 = b + 7 := M.1.2.2.1 (12, 7) (by decide)
theorem Md.r13 (M : Md b h0 h D s) : hr h b 13 = b + 8 := M.1.2.2.1 (13, 8) (by decide)
theorem Md.r15 (M : Md b h0 h D s) : hr h b 15 = b + 9 := M.1.2.2.1 (15, 9) (by decide)
theorem Md.r16 (M : Md b h0 h D s) : hr h b 16 = b + 10 := M.1.2.2.1 (16, 10) (by decide)
theorem Md.r35 (M : Md b h0 h D s) : hr h b 35 = b + 11 := M.1.2.2.1 (35, 11) (by decide)
theorem Md.r36 (M : Md b h0 h D s) : hr h b 36 = b + 12 := M.1.2.2.1 (36, 12) (by decide)
theorem Md.r37 (M : Md b h0 h D s) : hr h b 37 = b + 13 := M.1.2.2.1 (37, 13) (by decide)
theorem Md.r38 (M : Md b h0 h D s) : hr h b 38 = b + 14 := M.1.2.2.1 (38, 14) (by decide)
theorem Md.r39 (M : Md b h0 h D s) : hr h b 39 = b + 15 := M.1.2.2.1 (39, 15) (by decide)
theorem Md.r40 (M : Md b h0 h D s) : hr h b 40 = b + 16 := M.1.2.2.1 (40, 16) (by decide)
theorem Md.r41 (M : Md b h0 h D s) : hr h b 41 = b + 17 := M.1.2.2.1 (41, 17) (by decide)
theorem Md.r42 (M : Md b h0 h D s) : hr h b 42 = b + 18 := M.1.2.2.1 (42, 18) (by decide)
theorem Md.r45 (M : Md b h0 h D s) : hr h b 45 = b + 19 := M.1.2.2.1 (45, 19) (by decide)
theorem Md.f0 (M : Md b h0 h D s) : hi h b 0 = D 0 0 := M.row 0 (e := 0) (by decide) (by decide) (by decide) (by decide)
theorem Md.p0 (M : Md b h0 h D s) {v : Int} {P : PH → Prop} (H : ∀ h', Md b h0 h' (dst D 0 0 v) s → P h') : hk h b = 8 ∧ (∀ h', h' = hsi h b 0 v → P h') := ⟨M.k0, fun h' q => H h' (by rw [q]; exact M.stD 0 (e := 0) (by decide) (by decide) (by decide) (by decide))⟩
theorem Md.f1 (M : Md b h0 h D s) : hi h b 1 = D 0 1 := M.row 0 (e := 1) (by decide) (by decide) (by decide) (by decide)
theorem Md.p1 (M : Md b h0 h D s) {v : Int} {P : PH → Prop} (hv : v = 0 ∨ v = 1) (H : ∀ h', Md b h0 h' (dst D 0 1 v) s → P h') : hk h b = 8 ∧ (v = 0 ∨ v = 1) ∧ (∀ h', h' = hsi h b 1 v → P h') := ⟨M.k0, hv, fun h' q => H h' (by rw [q]; exact M.stD 0 (e := 1) (by decide) (by decide) (by decide) (by decide))⟩
theorem Md.f2 (M : Md b h0 h D s) : hi h b 2 = D 0 2 := M.row 0 (e := 2) (by decide) (by decide) (by decide) (by decide)
theorem Md.p2 (M : Md b h0 h D s) {v : Int} {P : PH → Prop} (H : ∀ h', Md b h0 h' (dst D 0 2 v) s → P h') : hk h b = 8 ∧ (∀ h', h' = hsi h b 2 v → P h') := ⟨M.k0, fun h' q => H h' (by rw [q]; exact M.stD 0 (e := 2) (by decide) (by decide) (by decide) (by decide))⟩
theorem Md.f3 (M : Md b h0 h D s) : hi h b 3 = D 0 3 := M.row 0 (e := 3) (by decide) (by decide) (by decide) (by decide)
theorem Md.p3 (M : Md b h0 h D s) {v : Int} {P : PH → Prop} (H : ∀ h', Md b h0 h' (dst D 0 3 v) s → P h') : hk h b = 8 ∧ (∀ h', h' = hsi h b 3 v → P h') := ⟨M.k0, fun h' q => H h' (by rw [q]; exact M.stD 0 (e := 3) (by decide) (by decide) (by decide) (by decide))⟩
theorem Md.f4 (M : Md b h0 h D s) : hi h b 4 = D 0 4 := M.row 0 (e := 4) (by decide) (by decide) (by decide) (by decide)
theorem Md.p4 (M : Md b h0 h D s) {v : Int} {P : PH → Prop} (H : ∀ h', Md b h0 h' (dst D 0 4 v) s → P h') : hk h b = 8 ∧ (∀ h', h' = hsi h b 4 v → P h') := ⟨M.k0, fun h' q => H h' (by rw [q]; exact M.stD 0 (e := 4) (by decide) (by decide) (by decide) (by decide))⟩
theorem Md.f5 (M : Md b h0 h D s) : hi h b 5 = D 0 5 := M.row 0 (e := 5) (by decide) (by decide) (by decide) (by decide)
theorem Md.p5 (M : Md b h0 h D s) {v : Int} {P : PH → Prop} (H : ∀ h', Md b h0 h' (dst D 0 5 v) s → P h') : hk h b = 8 ∧ (∀ h', h' = hsi h b 5 v → P h') := ⟨M.k0, fun h' q => H h' (by rw [q]; exact M.stD 0 (e := 5) (by decide) (by decide) (by decide) (by decide))⟩
theorem Md.f14 (M : Md b h0 h D s) : hi h b 14 = D 0 14 := M.row 0 (e := 14) (by decide) (by decide) (by decide) (by decide)
theorem Md.p14 (M : Md b h0 h D s) {v : Int} {P : PH → Prop} (H : ∀ h', Md b h0 h' (dst D 0 14 v) s → P h') : hk h b = 8 ∧ (∀ h', h' = hsi h b 14 v → P h') := ⟨M.k0, fun h' q => H h' (by rw [q]; exact M.stD 0 (e := 14) (by decide) (by decide) (by decide) (by decide))⟩
theorem Md.f17 (M : Md b h0 h D s) : hi h b 17 = D 0 17 := M.row 0 (e := 17) (by decide) (by decide) (by decide) (by decide)
theorem Md.p17 (M : Md b h0 h D s) {v : Int} {P : PH → Prop} (H : ∀ h', Md b h0 h' (dst D 0 17 v) s → P h') : hk h b = 8 ∧ (∀ h', h' = hsi h b 17 v → P h') := ⟨M.k0, fun h' q => H h' (by rw [q]; exact M.stD 0 (e := 17) (by decide) (by decide) (by decide) (by decide))⟩
theorem Md.f18 (M : Md b h0 h D s) : hi h b 18 = D 0 18 := M.row 0 (e := 18) (by decide) (by decide) (by decide) (by decide)
theorem Md.p18 (M : Md b h0 h D s) {v : Int} {P : PH → Prop} (H : ∀ h', Md b h0 h' (dst D 0 18 v) s → P h') : hk h b = 8 ∧ (∀ h', h' = hsi h b 18 v → P h') := ⟨M.k0, fun h' q => H h' (by rw [q]; exact M.stD 0 (e := 18) (by decide) (by decide) (by decide) (by decide))⟩
theorem Md.f19 (M : Md b h0 h D s) : hi h b 19 = D 0 19 := M.row 0 (e := 19) (by decide) (by decide) (by decide) (by decide)
theorem Md.p19 (M : Md b h0 h D s) {v : Int} {P : PH → Prop} (H : ∀ h', Md b h0 h' (dst D 0 19 v) s → P h') : hk h b = 8 ∧ (∀ h', h' = hsi h b 19 v → P h') := ⟨M.k0, fun h' q => H h' (by rw [q]; exact M.stD 0 (e := 19) (by decide) (by decide) (by decide) (by decide))⟩
theorem Md.f20 (M : Md b h0 h D s) : hi h b 20 = D 0 20 := M.row 0 (e := 20) (by decide) (by decide) (by decide) (by decide)
theorem Md.p20 (M : Md b h0 h D s) {v : Int} {P : PH → Prop} (H : ∀ h', Md b h0 h' (dst D 0 20 v) s → P h') : hk h b = 8 ∧ (∀ h', h' = hsi h b 20 v → P h') := ⟨M.k0, fun h' q => H h' (by rw [q]; exact M.stD 0 (e := 20) (by decide) (by decide) (by decide) (by decide))⟩
theorem Md.f21 (M : Md b h0 h D s) : hi h b 21 = D 0 21 := M.row 0 (e := 21) (by decide) (by decide) (by decide) (by decide)
theorem Md.p21 (M : Md b h0 h D s) {v : Int} {P : PH → Prop} (H : ∀ h', Md b h0 h' (dst D 0 21 v) s → P h') : hk h b = 8 ∧ (∀ h', h' = hsi h b 21 v → P h') := ⟨M.k0, fun h' q => H h' (by rw [q]; exact M.stD 0 (e := 21) (by decide) (by decide) (by decide) (by decide))⟩
theorem Md.f22 (M : Md b h0 h D s) : hi h b 22 = D 0 22 := M.row 0 (e := 22) (by decide) (by decide) (by decide) (by decide)
theorem Md.p22 (M : Md b h0 h D s) {v : Int} {P : PH → Prop} (H : ∀ h', Md b h0 h' (dst D 0 22 v) s → P h') : hk h b = 8 ∧ (∀ h', h' = hsi h b 22 v → P h') := ⟨M.k0, fun h' q => H h' (by rw [q]; exact M.stD 0 (e := 22) (by decide) (by decide) (by decide) (by decide))⟩
theorem Md.f23 (M : Md b h0 h D s) : hi h b 23 = D 0 23 := M.row 0 (e := 23) (by decide) (by decide) (by decide) (by decide)
theorem Md.p23 (M : Md b h0 h D s) {v : Int} {P : PH → Prop} (H : ∀ h', Md b h0 h' (dst D 0 23 v) s → P h') : hk h b = 8 ∧ (∀ h', h' = hsi h b 23 v → P h') := ⟨M.k0, fun h' q => H h' (by rw [q]; exact M.stD 0 (e := 23) (by decide) (by decide) (by decide) (by decide))⟩
theorem Md.f24 (M : Md b h0 h D s) : hi h b 24 = D 0 24 := M.row 0 (e := 24) (by decide) (by decide) (by decide) (by decide)
theorem Md.p24 (M : Md b h0 h D s) {v : Int} {P : PH → Prop} (H : ∀ h', Md b h0 h' (dst D 0 24 v) s → P h') : hk h b = 8 ∧ (∀ h', h' = hsi h b 24 v → P h') := ⟨M.k0, fun h' q => H h' (by rw [q]; exact M.stD 0 (e := 24) (by decide) (by decide) (by decide) (by decide))⟩
theorem Md.f25 (M : Md b h0 h D s) : hi h b 25 = D 0 25 := M.row 0 (e := 25) (by decide) (by decide) (by decide) (by decide)
theorem Md.p25 (M : Md b h0 h D s) {v : Int} {P : PH → Prop} (H : ∀ h', Md b h0 h' (dst D 0 25 v) s → P h') : hk h b = 8 ∧ (∀ h', h' = hsi h b 25 v → P h') := ⟨M.k0, fun h' q => H h' (by rw [q]; exact M.stD 0 (e := 25) (by decide) (by decide) (by decide) (by decide))⟩
theorem Md.f26 (M : Md b h0 h D s) : hi h b 26 = D 0 26 := M.row 0 (e := 26) (by decide) (by decide) (by decide) (by decide)
theorem Md.p26 (M : Md b h0 h D s) {v : Int} {P : PH → Prop} (H : ∀ h', Md b h0 h' (dst D 0 26 v) s → P h') : hk h b = 8 ∧ (∀ h', h' = hsi h b 26 v → P h') := ⟨M.k0, fun h' q => H h' (by rw [q]; exact M.stD 0 (e := 26) (by decide) (by decide) (by decide) (by decide))⟩
theorem Md.f27 (M : Md b h0 h D s) : hi h b 27 = D 0 27 := M.row 0 (e := 27) (by decide) (by decide) (by decide) (by decide)
theorem Md.p27 (M : Md b h0 h D s) {v : Int} {P : PH → Prop} (H : ∀ h', Md b h0 h' (dst D 0 27 v) s → P h') : hk h b = 8 ∧ (∀ h', h' = hsi h b 27 v → P h') := ⟨M.k0, fun h' q => H h' (by rw [q]; exact M.stD 0 (e := 27) (by decide) (by decide) (by decide) (by decide))⟩
theorem Md.f28 (M : Md b h0 h D s) : hi h b 28 = D 0 28 := M.row 0 (e := 28) (by decide) (by decide) (by decide) (by decide)
theorem Md.p28 (M : Md b h0 h D s) {v : Int} {P : PH → Prop} (H : ∀ h', Md b h0 h' (dst D 0 28 v) s → P h') : hk h b = 8 ∧ (∀ h', h' = hsi h b 28 v → P h') := ⟨M.k0, fun h' q => H h' (by rw [q]; exact M.stD 0 (e := 28) (by decide) (by decide) (by decide) (by decide))⟩
theorem Md.f29 (M : Md b h0 h D s) : hi h b 29 = D 0 29 := M.row 0 (e := 29) (by decide) (by decide) (by decide) (by decide)
theorem Md.p29 (M : Md b h0 h D s) {v : Int} {P : PH → Prop} (H : ∀ h', Md b h0 h' (dst D 0 29 v) s → P h') : hk h b = 8 ∧ (∀ h', h' = hsi h b 29 v → P h') := ⟨M.k0, fun h' q => H h' (by rw [q]; exact M.stD 0 (e := 29) (by decide) (by decide) (by decide) (by decide))⟩
theorem Md.f30 (M : Md b h0 h D s) : hi h b 30 = D 0 30 := M.row 0 (e := 30) (by decide) (by decide) (by decide) (by decide)
theorem Md.p30 (M : Md b h0 h D s) {v : Int} {P : PH → Prop} (H : ∀ h', Md b h0 h' (dst D 0 30 v) s → P h') : hk h b = 8 ∧ (∀ h', h' = hsi h b 30 v → P h') := ⟨M.k0, fun h' q => H h' (by rw [q]; exact M.stD 0 (e := 30) (by decide) (by decide) (by decide) (by decide))⟩
theorem Md.f31 (M : Md b h0 h D s) : hi h b 31 = D 0 31 := M.row 0 (e := 31) (by decide) (by decide) (by decide) (by decide)
theorem Md.p31 (M : Md b h0 h D s) {v : Int} {P : PH → Prop} (H : ∀ h', Md b h0 h' (dst D 0 31 v) s → P h') : hk h b = 8 ∧ (∀ h', h' = hsi h b 31 v → P h') := ⟨M.k0, fun h' q => H h' (by rw [q]; exact M.stD 0 (e := 31) (by decide) (by decide) (by decide) (by decide))⟩
theorem Md.f32 (M : Md b h0 h D s) : hi h b 32 = D 0 32 := M.row 0 (e := 32) (by decide) (by decide) (by decide) (by decide)
theorem Md.p32 (M : Md b h0 h D s) {v : Int} {P : PH → Prop} (H : ∀ h', Md b h0 h' (dst D 0 32 v) s → P h') : hk h b = 8 ∧ (∀ h', h' = hsi h b 32 v → P h') := ⟨M.k0, fun h' q => H h' (by rw [q]; exact M.stD 0 (e := 32) (by decide) (by decide) (by decide) (by decide))⟩
theorem Md.f33 (M : Md b h0 h D s) : hi h b 33 = D 0 33 := M.row 0 (e := 33) (by decide) (by decide) (by decide) (by decide)
theorem Md.p33 (M : Md b h0 h D s) {v : Int} {P : PH → Prop} (H : ∀ h', Md b h0 h' (dst D 0 33 v) s → P h') : hk h b = 8 ∧ (∀ h', h' = hsi h b 33 v → P h') := ⟨M.k0, fun h' q => H h' (by rw [q]; exact M.stD 0 (e := 33) (by decide) (by decide) (by decide) (by decide))⟩
theorem Md.f34 (M : Md b h0 h D s) : hi h b 34 = D 0 34 := M.row 0 (e := 34) (by decide) (by decide) (by decide) (by decide)
theorem Md.p34 (M : Md b h0 h D s) {v : Int} {P : PH → Prop} (H : ∀ h', Md b h0 h' (dst D 0 34 v) s → P h') : hk h b = 8 ∧ (∀ h', h' = hsi h b 34 v → P h') := ⟨M.k0, fun h' q => H h' (by rw [q]; exact M.stD 0 (e := 34) (by decide) (by decide) (by decide) (by decide))⟩
theorem Md.f43 (M : Md b h0 h D s) : hi h b 43 = s (-1) := M.2.2.2.2.1
theorem Md.p43 (M : Md b h0 h D s) {v : Int} {P : PH → Prop} (H : ∀ h', Md b h0 h' D (ups s (-1) v) → P h') : hk h b = 8 ∧ (∀ h', h' = hsi h b 43 v → P h') := ⟨M.k0, fun h' q => H h' (by rw [q]; exact M.stW)⟩
theorem Md.f44 (M : Md b h0 h D s) : hi h b 44 = s (-2) := M.2.2.2.2.2
theorem Md.p44 (M : Md b h0 h D s) {v : Int} {P : PH → Prop} (H : ∀ h', Md b h0 h' D (ups s (-2) v) → P h') : hk h b = 8 ∧ (∀ h', h' = hsi h b 44 v → P h') := ⟨M.k0, fun h' q => H h' (by rw [q]; exact M.stE)⟩
theorem Md.f46 (M : Md b h0 h D s) : hi h b 46 = D 0 46 := M.row 0 (e := 46) (by decide) (by decide) (by decide) (by decide)
theorem Md.p46 (M : Md b h0 h D s) {v : Int} {P : PH → Prop} (H : ∀ h', Md b h0 h' (dst D 0 46 v) s → P h') : hk h b = 8 ∧ (∀ h', h' = hsi h b 46 v → P h') := ⟨M.k0, fun h' q => H h' (by rw [q]; exact M.stD 0 (e := 46) (by decide) (by decide) (by decide) (by decide))⟩
theorem Md.ld1 (M : Md b h0 h D s) {e : Int} {P : Prop} (h1 : 0 ≤ e) (h2 : e < 56) (H : hi h (b + 1) e.toNat = D 1 e → P) : (hk h (b + 1) = 20 ∨ hk h (b + 1) = 26) ∧ (0 ≤ e ∧ e < (hl h (b + 1) : Int)) ∧ P := M.ldD 1 56 (by decide) rfl h1 h2 H
theorem Md.as1 (M : Md b h0 h D s) {e v : Int} {P : PH → Prop} (h1 : 0 ≤ e) (h2 : e < 56) (H : ∀ h', Md b h0 h' (dst D 1 e v) s → P h') : hk h (b + 1) = 20 ∧ (0 ≤ e ∧ e < (hl h (b + 1) : Int)) ∧ (∀ h', h' = hsi h (b + 1) e.toNat v → P h') := M.asD 1 56 (by decide) rfl h1 h2 H
theorem Md.ld2 (M : Md b h0 h D s) {e : Int} {P : Prop} (h1 : 0 ≤ e) (h2 : e < 42) (H : hi h (b + 2) e.toNat = D 2 e → P) : (hk h (b + 2) = 20 ∨ hk h (b + 2) = 26) ∧ (0 ≤ e ∧ e < (hl h (b + 2) : Int)) ∧ P := M.ldD 2 42 (by decide) rfl h1 h2 H
theorem Md.as2 (M : Md b h0 h D s) {e v : Int} {P : PH → Prop} (h1 : 0 ≤ e) (h2 : e < 42) (H : ∀ h', Md b h0 h' (dst D 2 e v) s → P h') : hk h (b + 2) = 20 ∧ (0 ≤ e ∧ e < (hl h (b + 2) : Int)) ∧ (∀ h', h' = hsi h (b + 2) e.toNat v → P h') := M.asD 2 42 (by decide) rfl h1 h2 H
theorem Md.ld3 (M : Md b h0 h D s) {e : Int} {P : Prop} (h1 : 0 ≤ e) (h2 : e < 48) (H : hi h (b + 3) e.toNat = D 3 e → P) : (hk h (b + 3) = 20 ∨ hk h (b + 3) = 26) ∧ (0 ≤ e ∧ e < (hl h (b + 3) : Int)) ∧ P := M.ldD 3 48 (by decide) rfl h1 h2 H
theorem Md.as3 (M : Md b h0 h D s) {e v : Int} {P : PH → Prop} (h1 : 0 ≤ e) (h2 : e < 48) (H : ∀ h', Md b h0 h' (dst D 3 e v) s → P h') : hk h (b + 3) = 20 ∧ (0 ≤ e ∧ e < (hl h (b + 3) : Int)) ∧ (∀ h', h' = hsi h (b + 3) e.toNat v → P h') := M.asD 3 48 (by decide) rfl h1 h2 H
theorem Md.ld4 (M : Md b h0 h D s) {e : Int} {P : Prop} (h1 : 0 ≤ e) (h2 : e < 48) (H : hi h (b + 4) e.toNat = D 4 e → P) : (hk h (b + 4) = 20 ∨ hk h (b + 4) = 26) ∧ (0 ≤ e ∧ e < (hl h (b + 4) : Int)) ∧ P := M.ldD 4 48 (by decide) rfl h1 h2 H
theorem Md.as4 (M : Md b h0 h D s) {e v : Int} {P : PH → Prop} (h1 : 0 ≤ e) (h2 : e < 48) (H : ∀ h', Md b h0 h' (dst D 4 e v) s → P h') : hk h (b + 4) = 20 ∧ (0 ≤ e ∧ e < (hl h (b + 4) : Int)) ∧ (∀ h', h' = hsi h (b + 4) e.toNat v → P h') := M.asD 4 48 (by decide) rfl h1 h2 H
theorem Md.ld5 (M : Md b h0 h D s) {e : Int} {P : Prop} (h1 : 0 ≤ e) (h2 : e < 768) (H : hi h (b + 5) e.toNat = D 5 e → P) : (hk h (b + 5) = 20 ∨ hk h (b + 5) = 26) ∧ (0 ≤ e ∧ e < (hl h (b + 5) : Int)) ∧ P := M.ldD 5 768 (by decide) rfl h1 h2 H
theorem Md.as5 (M : Md b h0 h D s) {e v : Int} {P : PH → Prop} (h1 : 0 ≤ e) (h2 : e < 768) (H : ∀ h', Md b h0 h' (dst D 5 e v) s → P h') : hk h (b + 5) = 20 ∧ (0 ≤ e ∧ e < (hl h (b + 5) : Int)) ∧ (∀ h', h' = hsi h (b + 5) e.toNat v → P h') := M.asD 5 768 (by decide) rfl h1 h2 H
theorem Md.ld7 (M : Md b h0 h D s) {e : Int} {P : Prop} (h1 : 0 ≤ e) (h2 : e < 861) (H : hi h (b + 7) e.toNat = D 7 e → P) : (hk h (b + 7) = 20 ∨ hk h (b + 7) = 26) ∧ (0 ≤ e ∧ e < (hl h (b + 7) : Int)) ∧ P := M.ldD 7 861 (by decide) rfl h1 h2 H
theorem Md.as7 (M : Md b h0 h D s) {e v : Int} {P : PH → Prop} (h1 : 0 ≤ e) (h2 : e < 861) (H : ∀ h', Md b h0 h' (dst D 7 e v) s → P h') : hk h (b + 7) = 20 ∧ (0 ≤ e ∧ e < (hl h (b + 7) : Int)) ∧ (∀ h', h' = hsi h (b + 7) e.toNat v → P h') := M.asD 7 861 (by decide) rfl h1 h2 H
theorem Md.ld8 (M : Md b h0 h D s) {e : Int} {P : Prop} (h1 : 0 ≤ e) (h2 : e < 8610) (H : hi h (b + 8) e.toNat = D 8 e → P) : (hk h (b + 8) = 20 ∨ hk h (b + 8) = 26) ∧ (0 ≤ e ∧ e < (hl h (b + 8) : Int)) ∧ P := M.ldD 8 8610 (by decide) rfl h1 h2 H
theorem Md.as8 (M : Md b h0 h D s) {e v : Int} {P : PH → Prop} (h1 : 0 ≤ e) (h2 : e < 8610) (H : ∀ h', Md b h0 h' (dst D 8 e v) s → P h') : hk h (b + 8) = 20 ∧ (0 ≤ e ∧ e < (hl h (b + 8) : Int)) ∧ (∀ h', h' = hsi h (b + 8) e.toNat v → P h') := M.asD 8 8610 (by decide) rfl h1 h2 H
theorem Md.ld10 (M : Md b h0 h D s) {e : Int} {P : Prop} (h1 : 0 ≤ e) (h2 : e < 700) (H : hi h (b + 10) e.toNat = D 10 e → P) : (hk h (b + 10) = 20 ∨ hk h (b + 10) = 26) ∧ (0 ≤ e ∧ e < (hl h (b + 10) : Int)) ∧ P := M.ldD 10 700 (by decide) rfl h1 h2 H
theorem Md.as10 (M : Md b h0 h D s) {e v : Int} {P : PH → Prop} (h1 : 0 ≤ e) (h2 : e < 700) (H : ∀ h', Md b h0 h' (dst D 10 e v) s → P h') : hk h (b + 10) = 20 ∧ (0 ≤ e ∧ e < (hl h (b + 10) : Int)) ∧ (∀ h', h' = hsi h (b + 10) e.toNat v → P h') := M.asD 10 700 (by decide) rfl h1 h2 H
theorem Md.ld11 (M : Md b h0 h D s) {e : Int} {P : Prop} (h1 : 0 ≤ e) (h2 : e < 56) (H : hi h (b + 11) e.toNat = D 11 e → P) : (hk h (b + 11) = 20 ∨ hk h (b + 11) = 26) ∧ (0 ≤ e ∧ e < (hl h (b + 11) : Int)) ∧ P := M.ldD 11 56 (by decide) rfl h1 h2 H
theorem Md.as11 (M : Md b h0 h D s) {e v : Int} {P : PH → Prop} (h1 : 0 ≤ e) (h2 : e < 56) (H : ∀ h', Md b h0 h' (dst D 11 e v) s → P h') : hk h (b + 11) = 20 ∧ (0 ≤ e ∧ e < (hl h (b + 11) : Int)) ∧ (∀ h', h' = hsi h (b + 11) e.toNat v → P h') := M.asD 11 56 (by decide) rfl h1 h2 H
theorem Md.ld12 (M : Md b h0 h D s) {e : Int} {P : Prop} (h1 : 0 ≤ e) (h2 : e < 42) (H : hi h (b + 12) e.toNat = D 12 e → P) : (hk h (b + 12) = 20 ∨ hk h (b + 12) = 26) ∧ (0 ≤ e ∧ e < (hl h (b + 12) : Int)) ∧ P := M.ldD 12 42 (by decide) rfl h1 h2 H
theorem Md.as12 (M : Md b h0 h D s) {e v : Int} {P : PH → Prop} (h1 : 0 ≤ e) (h2 : e < 42) (H : ∀ h', Md b h0 h' (dst D 12 e v) s → P h') : hk h (b + 12) = 20 ∧ (0 ≤ e ∧ e < (hl h (b + 12) : Int)) ∧ (∀ h', h' = hsi h (b + 12) e.toNat v → P h') := M.asD 12 42 (by decide) rfl h1 h2 H
theorem Md.ld13 (M : Md b h0 h D s) {e : Int} {P : Prop} (h1 : 0 ≤ e) (h2 : e < 24) (H : hi h (b + 13) e.toNat = D 13 e → P) : (hk h (b + 13) = 20 ∨ hk h (b + 13) = 26) ∧ (0 ≤ e ∧ e < (hl h (b + 13) : Int)) ∧ P := M.ldD 13 24 (by decide) rfl h1 h2 H
theorem Md.as13 (M : Md b h0 h D s) {e v : Int} {P : PH → Prop} (h1 : 0 ≤ e) (h2 : e < 24) (H : ∀ h', Md b h0 h' (dst D 13 e v) s → P h') : hk h (b + 13) = 20 ∧ (0 ≤ e ∧ e < (hl h (b + 13) : Int)) ∧ (∀ h', h' = hsi h (b + 13) e.toNat v → P h') := M.asD 13 24 (by decide) rfl h1 h2 H
theorem Md.ld14 (M : Md b h0 h D s) {e : Int} {P : Prop} (h1 : 0 ≤ e) (h2 : e < 6) (H : hi h (b + 14) e.toNat = D 14 e → P) : (hk h (b + 14) = 20 ∨ hk h (b + 14) = 26) ∧ (0 ≤ e ∧ e < (hl h (b + 14) : Int)) ∧ P := M.ldD 14 6 (by decide) rfl h1 h2 H
theorem Md.as14 (M : Md b h0 h D s) {e v : Int} {P : PH → Prop} (h1 : 0 ≤ e) (h2 : e < 6) (H : ∀ h', Md b h0 h' (dst D 14 e v) s → P h') : hk h (b + 14) = 20 ∧ (0 ≤ e ∧ e < (hl h (b + 14) : Int)) ∧ (∀ h', h' = hsi h (b + 14) e.toNat v → P h') := M.asD 14 6 (by decide) rfl h1 h2 H
theorem Md.ld15 (M : Md b h0 h D s) {e : Int} {P : Prop} (h1 : 0 ≤ e) (h2 : e < 48) (H : hi h (b + 15) e.toNat = D 15 e → P) : (hk h (b + 15) = 20 ∨ hk h (b + 15) = 26) ∧ (0 ≤ e ∧ e < (hl h (b + 15) : Int)) ∧ P := M.ldD 15 48 (by decide) rfl h1 h2 H
theorem Md.as15 (M : Md b h0 h D s) {e v : Int} {P : PH → Prop} (h1 : 0 ≤ e) (h2 : e < 48) (H : ∀ h', Md b h0 h' (dst D 15 e v) s → P h') : hk h (b + 15) = 20 ∧ (0 ≤ e ∧ e < (hl h (b + 15) : Int)) ∧ (∀ h', h' = hsi h (b + 15) e.toNat v → P h') := M.asD 15 48 (by decide) rfl h1 h2 H
theorem Md.ld16 (M : Md b h0 h D s) {e : Int} {P : Prop} (h1 : 0 ≤ e) (h2 : e < 48) (H : hi h (b + 16) e.toNat = D 16 e → P) : (hk h (b + 16) = 20 ∨ hk h (b + 16) = 26) ∧ (0 ≤ e ∧ e < (hl h (b + 16) : Int)) ∧ P := M.ldD 16 48 (by decide) rfl h1 h2 H
theorem Md.as16 (M : Md b h0 h D s) {e v : Int} {P : PH → Prop} (h1 : 0 ≤ e) (h2 : e < 48) (H : ∀ h', Md b h0 h' (dst D 16 e v) s → P h') : hk h (b + 16) = 20 ∧ (0 ≤ e ∧ e < (hl h (b + 16) : Int)) ∧ (∀ h', h' = hsi h (b + 16) e.toNat v → P h') := M.asD 16 48 (by decide) rfl h1 h2 H
theorem Md.ld17 (M : Md b h0 h D s) {e : Int} {P : Prop} (h1 : 0 ≤ e) (h2 : e < 768) (H : hi h (b + 17) e.toNat = D 17 e → P) : (hk h (b + 17) = 20 ∨ hk h (b + 17) = 26) ∧ (0 ≤ e ∧ e < (hl h (b + 17) : Int)) ∧ P := M.ldD 17 768 (by decide) rfl h1 h2 H
theorem Md.as17 (M : Md b h0 h D s) {e v : Int} {P : PH → Prop} (h1 : 0 ≤ e) (h2 : e < 768) (H : ∀ h', Md b h0 h' (dst D 17 e v) s → P h') : hk h (b + 17) = 20 ∧ (0 ≤ e ∧ e < (hl h (b + 17) : Int)) ∧ (∀ h', h' = hsi h (b + 17) e.toNat v → P h') := M.asD 17 768 (by decide) rfl h1 h2 H
theorem Md.ld18 (M : Md b h0 h D s) {e : Int} {P : Prop} (h1 : 0 ≤ e) (h2 : e < 36) (H : hi h (b + 18) e.toNat = D 18 e → P) : (hk h (b + 18) = 20 ∨ hk h (b + 18) = 26) ∧ (0 ≤ e ∧ e < (hl h (b + 18) : Int)) ∧ P := M.ldD 18 36 (by decide) rfl h1 h2 H
theorem Md.as18 (M : Md b h0 h D s) {e v : Int} {P : PH → Prop} (h1 : 0 ≤ e) (h2 : e < 36) (H : ∀ h', Md b h0 h' (dst D 18 e v) s → P h') : hk h (b + 18) = 20 ∧ (0 ≤ e ∧ e < (hl h (b + 18) : Int)) ∧ (∀ h', h' = hsi h (b + 18) e.toNat v → P h') := M.asD 18 36 (by decide) rfl h1 h2 H
theorem Md.ld19 (M : Md b h0 h D s) {e : Int} {P : Prop} (h1 : 0 ≤ e) (h2 : e < 600) (H : hi h (b + 19) e.toNat = D 19 e → P) : (hk h (b + 19) = 20 ∨ hk h (b + 19) = 26) ∧ (0 ≤ e ∧ e < (hl h (b + 19) : Int)) ∧ P := M.ldD 19 600 (by decide) rfl h1 h2 H
theorem Md.as19 (M : Md b h0 h D s) {e v : Int} {P : PH → Prop} (h1 : 0 ≤ e) (h2 : e < 600) (H : ∀ h', Md b h0 h' (dst D 19 e v) s → P h') : hk h (b + 19) = 20 ∧ (0 ≤ e ∧ e < (hl h (b + 19) : Int)) ∧ (∀ h', h' = hsi h (b + 19) e.toNat v → P h') := M.asD 19 600 (by decide) rfl h1 h2 H
end MD
