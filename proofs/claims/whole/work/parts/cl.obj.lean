/-! the class's object is made (written by wip/whole/tools/gencl.py) -/
def I6 (h : PH) : Prop := XC h 66 76 ∧ (hr h 64 7 = 90 ∧ hr h 64 8 = 100 ∧ hr h 64 9 = 114 ∧ hr h 64 12 = 115 ∧ hr h 64 13 = 116) ∧ (hi h 64 3 = -1 ∧ ∀ k, k ≠ 3 → hi h 64 k = 0) ∧ ((∃ E, Px 66 h h E) ∧ (∃ E, RMK h 76 E) ∧ (∃ E, Px 90 h h E) ∧ ∃ E, RMK h 100 E) ∧ (hk h 65 = 21 ∧ hl h 65 = 700 ∧ ∀ k, hi h 65 k = 0) ∧ (hk h 114 = 25 ∧ hl h 114 = 8 ∧ ∀ k, hr h 114 k = 0) ∧ (hk h 115 = 25 ∧ hl h 115 = 2 ∧ ∀ k, hr h 115 k = 0) ∧ (hk h 116 = 22 ∧ hl h 116 = 2 ∧ ∀ k, hi h 116 k = 0) ∧ Ox 117 h h (fun _ _ => 0)
theorem fst64 {h h' : PH} {f v : Nat} (q : h' = hsr h 64 f v) : hn h' = hn h ∧ (∀ r, r ≠ 64 → SC h h' r) ∧ hk h' 64 = hk h 64 ∧ (∀ k, hi h' 64 k = hi h 64 k) ∧ ∀ k, hr h' 64 k = if k = f then v else hr h 64 k := by
  subst q
  refine ⟨rfl, fun r a => ⟨rfl, fun k => ⟨rfl, ?_⟩⟩, rfl, fun _ => rfl, fun k => ?_⟩
  · rw [hr_hsr, if_neg (by omega)]
  · rw [hr_hsr]
    by_cases z : k = f
    · rw [if_pos ⟨rfl, z⟩, if_pos z]
    · rw [if_neg (fun y => z y.2), if_neg z]
theorem new1 {h h' : PH} {kd len m : Nat} (q : h' = hnew h kd len) (n : hn h = m) : hn h' = m + 1 ∧ (∀ r, r < m → SC h h' r) ∧ (hk h' m = kd ∧ hl h' m = len ∧ (∀ k, hi h' m k = 0) ∧ ∀ k, hr h' m k = 0) := by
  have A := AL.begin h kd len (fun _ => kd) (fun _ => len) rfl rfl
  rw [← q, n] at A
  exact ⟨A.n, A.2.1, A.k (j := 0) (by decide), A.l (j := 0) (by decide), fun k => A.i (j := 0) (f := k) (by decide), fun k => (A.2.2 0 (by decide)).2.2 k⟩
theorem S_X6_init {d : Nat} {h : PH} {Q : Int → PH → Prop} {X : Nat → PH → Prop} (n0 : hn h = 65) (k0 : hk h 64 = 7) (z0 : ∀ k, hi h 64 k = 0 ∧ hr h 64 k = 0) (H : ∀ h', hn h' = 119 → (∀ r, r < 64 → SC h h' r) → I6 h' → Q 0 h') : RUN GQ (d + 3) m_X6_init [pA 64] h Q X := by
  rw [e_X6_init]
  refine WP.of (RUN.mono GQ _) (cuts := []) (n := 400) (v_X6_init_0 _ _ _ _ ?_)
  refine ⟨by decide, ?_⟩
  have R0 : ∀ k, hr h 64 k = 0 := fun k => (z0 k).2
  have I0 : ∀ k, hi h 64 k = 0 := fun k => (z0 k).1
  rw [n0]
  refine ⟨⟨by decide, by decide⟩, ⟨by decide, by decide⟩, fun g1 q1 => ?_⟩
  obtain ⟨n1, sc1, b1⟩ := new1 q1 n0
  have k1 : hk g1 64 = 7 := (sc1 64 (by omega)).k.trans k0
  have R1 : ∀ k, hr g1 64 k = 0 := fun k => ((sc1 64 (by omega)).2 k).2.trans (R0 k)
  have I1 : ∀ k, hi g1 64 k = 0 := fun k => ((sc1 64 (by omega)).2 k).1.trans (I0 k)
  refine ⟨k1, fun g2 q2 => ?_⟩
  obtain ⟨m2, sc2, y2, i2, r2⟩ := fst64 q2
  have n2 : hn g2 = 66 := m2.trans n1
  have k2 : hk g2 64 = 7 := y2.trans k1
  have R2 : ∀ k, hr g2 64 k = (if k = 0 then 65 else 0) := fun k => by rw [r2, R1]
  have I2 : ∀ k, hi g2 64 k = 0 := fun k => (i2 k).trans (I1 k)
  refine ⟨k2, fun g3 q3 => ?_⟩
  have sc3 : ∀ r, r ≠ 64 → SC g2 g3 r := fun r a => by rw [q3]; exact ⟨rfl, fun k => ⟨by rw [hi_hsi, if_neg (by omega)], rfl⟩⟩
  have n3 : hn g3 = 66 := by rw [q3]; exact n2
  have k3 : hk g3 64 = 7 := by rw [q3]; exact k2
  have R3 : ∀ k, hr g3 64 k = (if k = 0 then 65 else 0) := fun k => by rw [q3]; exact R2 k
  have I3 : ∀ k, hi g3 64 k = (if k = 3 then -1 else 0) := fun k => by
    rw [q3, hi_hsi]
    by_cases z : k = 3
    · rw [if_pos ⟨rfl, z⟩, if_pos z]
    · rw [if_neg (fun y => z y.2), if_neg z]
      exact I2 k
  rw [n3]
  refine ⟨⟨by decide, by decide⟩, fun f4 q4 => ?_⟩
  have A4 : AL g3 f4 66 1 kP lP (fun _ _ => 0) (fun _ _ => 0) := by
    have A := AL.begin g3 6 5 kP lP rfl rfl
    rw [← q4, n3] at A
    exact A
  refine ⟨A4.k (j := 0) (by decide), ⟨by decide, by decide⟩, S_X5_init A4 (by decide) (fun g4 E4 n4 sc4 b4 => ?_)⟩
  have n4 : hn g4 = 76 := n4
  have k4 : hk g4 64 = 7 := (sc4 64 (by omega)).k.trans k3
  have R4 : ∀ k, hr g4 64 k = (if k = 0 then 65 else 0) := fun k => ((sc4 64 (by omega)).2 k).2.trans (R3 k)
  have I4 : ∀ k, hi g4 64 k = (if k = 3 then -1 else 0) := fun k => ((sc4 64 (by omega)).2 k).1.trans (I3 k)
  refine ⟨k4, fun g5 q5 => ?_⟩
  obtain ⟨m5, sc5, y5, i5, r5⟩ := fst64 q5
  have n5 : hn g5 = 76 := m5.trans n4
  have k5 : hk g5 64 = 7 := y5.trans k4
  have R5 : ∀ k, hr g5 64 k = (if k = 5 then 66 else (if k = 0 then 65 else 0)) := fun k => by rw [r5, R4]
  have I5 : ∀ k, hi g5 64 k = (if k = 3 then -1 else 0) := fun k => (i5 k).trans (I4 k)
  rw [n5]
  refine ⟨⟨by decide, by decide⟩, fun f6 q6 => ?_⟩
  have A6 : AL g5 f6 76 1 kH lH (fun _ _ => 0) (fun _ _ => 0) := by
    have A := AL.begin g5 1 15 kH lH rfl rfl
    rw [← q6, n5] at A
    exact A
  refine ⟨A6.k (j := 0) (by decide), ⟨by decide, by decide⟩, S_X0_init A6 (by decide) (fun x6 g6 E6 e6 n6 sc6 b6 b66 b96 => ?_)⟩
  have n6 : hn g6 = 90 := n6
  have k6 : hk g6 64 = 7 := (sc6 64 (by omega)).k.trans k5
  have R6 : ∀ k, hr g6 64 k = (if k = 5 then 66 else (if k = 0 then 65 else 0)) := fun k => ((sc6 64 (by omega)).2 k).2.trans (R5 k)
  have I6 : ∀ k, hi g6 64 k = (if k = 3 then -1 else 0) := fun k => ((sc6 64 (by omega)).2 k).1.trans (I5 k)
  refine ⟨k6, fun g7 q7 => ?_⟩
  obtain ⟨m7, sc7, y7, i7, r7⟩ := fst64 q7
  have n7 : hn g7 = 90 := m7.trans n6
  have k7 : hk g7 64 = 7 := y7.trans k6
  have R7 : ∀ k, hr g7 64 k = (if k = 6 then 76 else (if k = 5 then 66 else (if k = 0 then 65 else 0))) := fun k => by rw [r7, R6]
  have I7 : ∀ k, hi g7 64 k = (if k = 3 then -1 else 0) := fun k => (i7 k).trans (I6 k)
  rw [n7]
  refine ⟨⟨by decide, by decide⟩, fun f8 q8 => ?_⟩
  have A8 : AL g7 f8 90 1 kP lP (fun _ _ => 0) (fun _ _ => 0) := by
    have A := AL.begin g7 6 5 kP lP rfl rfl
    rw [← q8, n7] at A
    exact A
  refine ⟨A8.k (j := 0) (by decide), ⟨by decide, by decide⟩, S_X5_init A8 (by decide) (fun g8 E8 n8 sc8 b8 => ?_)⟩
  have n8 : hn g8 = 100 := n8
  have k8 : hk g8 64 = 7 := (sc8 64 (by omega)).k.trans k7
  have R8 : ∀ k, hr g8 64 k = (if k = 6 then 76 else (if k = 5 then 66 else (if k = 0 then 65 else 0))) := fun k => ((sc8 64 (by omega)).2 k).2.trans (R7 k)
  have I8 : ∀ k, hi g8 64 k = (if k = 3 then -1 else 0) := fun k => ((sc8 64 (by omega)).2 k).1.trans (I7 k)
  refine ⟨k8, fun g9 q9 => ?_⟩
  obtain ⟨m9, sc9, y9, i9, r9⟩ := fst64 q9
  have n9 : hn g9 = 100 := m9.trans n8
  have k9 : hk g9 64 = 7 := y9.trans k8
  have R9 : ∀ k, hr g9 64 k = (if k = 7 then 90 else (if k = 6 then 76 else (if k = 5 then 66 else (if k = 0 then 65 else 0)))) := fun k => by rw [r9, R8]
  have I9 : ∀ k, hi g9 64 k = (if k = 3 then -1 else 0) := fun k => (i9 k).trans (I8 k)
  rw [n9]
  refine ⟨⟨by decide, by decide⟩, fun f10 q10 => ?_⟩
  have A10 : AL g9 f10 100 1 kH lH (fun _ _ => 0) (fun _ _ => 0) := by
    have A := AL.begin g9 1 15 kH lH rfl rfl
    rw [← q10, n9] at A
    exact A
  refine ⟨A10.k (j := 0) (by decide), ⟨by decide, by decide⟩, S_X0_init A10 (by decide) (fun x10 g10 E10 e10 n10 sc10 b10 b610 b910 => ?_)⟩
  have n10 : hn g10 = 114 := n10
  have k10 : hk g10 64 = 7 := (sc10 64 (by omega)).k.trans k9
  have R10 : ∀ k, hr g10 64 k = (if k = 7 then 90 else (if k = 6 then 76 else (if k = 5 then 66 else (if k = 0 then 65 else 0)))) := fun k => ((sc10 64 (by omega)).2 k).2.trans (R9 k)
  have I10 : ∀ k, hi g10 64 k = (if k = 3 then -1 else 0) := fun k => ((sc10 64 (by omega)).2 k).1.trans (I9 k)
  refine ⟨k10, fun g11 q11 => ?_⟩
  obtain ⟨m11, sc11, y11, i11, r11⟩ := fst64 q11
  have n11 : hn g11 = 114 := m11.trans n10
  have k11 : hk g11 64 = 7 := y11.trans k10
  have R11 : ∀ k, hr g11 64 k = (if k = 8 then 100 else (if k = 7 then 90 else (if k = 6 then 76 else (if k = 5 then 66 else (if k = 0 then 65 else 0))))) := fun k => by rw [r11, R10]
  have I11 : ∀ k, hi g11 64 k = (if k = 3 then -1 else 0) := fun k => (i11 k).trans (I10 k)
  rw [n11]
  refine ⟨⟨by decide, by decide⟩, ⟨by decide, by decide⟩, fun g12 q12 => ?_⟩
  obtain ⟨n12, sc12, b12⟩ := new1 q12 n11
  have k12 : hk g12 64 = 7 := (sc12 64 (by omega)).k.trans k11
  have R12 : ∀ k, hr g12 64 k = (if k = 8 then 100 else (if k = 7 then 90 else (if k = 6 then 76 else (if k = 5 then 66 else (if k = 0 then 65 else 0))))) := fun k => ((sc12 64 (by omega)).2 k).2.trans (R11 k)
  have I12 : ∀ k, hi g12 64 k = (if k = 3 then -1 else 0) := fun k => ((sc12 64 (by omega)).2 k).1.trans (I11 k)
  refine ⟨k12, fun g13 q13 => ?_⟩
  obtain ⟨m13, sc13, y13, i13, r13⟩ := fst64 q13
  have n13 : hn g13 = 115 := m13.trans n12
  have k13 : hk g13 64 = 7 := y13.trans k12
  have R13 : ∀ k, hr g13 64 k = (if k = 9 then 114 else (if k = 8 then 100 else (if k = 7 then 90 else (if k = 6 then 76 else (if k = 5 then 66 else (if k = 0 then 65 else 0)))))) := fun k => by rw [r13, R12]
  have I13 : ∀ k, hi g13 64 k = (if k = 3 then -1 else 0) := fun k => (i13 k).trans (I12 k)
  rw [n13]
  refine ⟨⟨by decide, by decide⟩, ⟨by decide, by decide⟩, fun g14 q14 => ?_⟩
  obtain ⟨n14, sc14, b14⟩ := new1 q14 n13
  have k14 : hk g14 64 = 7 := (sc14 64 (by omega)).k.trans k13
  have R14 : ∀ k, hr g14 64 k = (if k = 9 then 114 else (if k = 8 then 100 else (if k = 7 then 90 else (if k = 6 then 76 else (if k = 5 then 66 else (if k = 0 then 65 else 0)))))) := fun k => ((sc14 64 (by omega)).2 k).2.trans (R13 k)
  have I14 : ∀ k, hi g14 64 k = (if k = 3 then -1 else 0) := fun k => ((sc14 64 (by omega)).2 k).1.trans (I13 k)
  refine ⟨k14, fun g15 q15 => ?_⟩
  obtain ⟨m15, sc15, y15, i15, r15⟩ := fst64 q15
  have n15 : hn g15 = 116 := m15.trans n14
  have k15 : hk g15 64 = 7 := y15.trans k14
  have R15 : ∀ k, hr g15 64 k = (if k = 12 then 115 else (if k = 9 then 114 else (if k = 8 then 100 else (if k = 7 then 90 else (if k = 6 then 76 else (if k = 5 then 66 else (if k = 0 then 65 else 0))))))) := fun k => by rw [r15, R14]
  have I15 : ∀ k, hi g15 64 k = (if k = 3 then -1 else 0) := fun k => (i15 k).trans (I14 k)
  rw [n15]
  refine ⟨⟨by decide, by decide⟩, ⟨by decide, by decide⟩, fun g16 q16 => ?_⟩
  obtain ⟨n16, sc16, b16⟩ := new1 q16 n15
  have k16 : hk g16 64 = 7 := (sc16 64 (by omega)).k.trans k15
  have R16 : ∀ k, hr g16 64 k = (if k = 12 then 115 else (if k = 9 then 114 else (if k = 8 then 100 else (if k = 7 then 90 else (if k = 6 then 76 else (if k = 5 then 66 else (if k = 0 then 65 else 0))))))) := fun k => ((sc16 64 (by omega)).2 k).2.trans (R15 k)
  have I16 : ∀ k, hi g16 64 k = (if k = 3 then -1 else 0) := fun k => ((sc16 64 (by omega)).2 k).1.trans (I15 k)
  refine ⟨k16, fun g17 q17 => ?_⟩
  obtain ⟨m17, sc17, y17, i17, r17⟩ := fst64 q17
  have n17 : hn g17 = 117 := m17.trans n16
  have k17 : hk g17 64 = 7 := y17.trans k16
  have R17 : ∀ k, hr g17 64 k = (if k = 13 then 116 else (if k = 12 then 115 else (if k = 9 then 114 else (if k = 8 then 100 else (if k = 7 then 90 else (if k = 6 then 76 else (if k = 5 then 66 else (if k = 0 then 65 else 0)))))))) := fun k => by rw [r17, R16]
  have I17 : ∀ k, hi g17 64 k = (if k = 3 then -1 else 0) := fun k => (i17 k).trans (I16 k)
  rw [n17]
  refine ⟨⟨by decide, by decide⟩, fun f18 q18 => ?_⟩
  have A18 : AL g17 f18 117 1 kO lO (fun _ _ => 0) (fun _ _ => 0) := by
    have A := AL.begin g17 4 2 kO lO rfl rfl
    rw [← q18, n17] at A
    exact A
  refine ⟨A18.k (j := 0) (by decide), ⟨by decide, by decide⟩, S_X3_init A18 (by decide) (fun g18 n18 sc18 b18 => ?_)⟩
  have n18 : hn g18 = 119 := n18
  have k18 : hk g18 64 = 7 := (sc18 64 (by omega)).k.trans k17
  have R18 : ∀ k, hr g18 64 k = (if k = 13 then 116 else (if k = 12 then 115 else (if k = 9 then 114 else (if k = 8 then 100 else (if k = 7 then 90 else (if k = 6 then 76 else (if k = 5 then 66 else (if k = 0 then 65 else 0)))))))) := fun k => ((sc18 64 (by omega)).2 k).2.trans (R17 k)
  have I18 : ∀ k, hi g18 64 k = (if k = 3 then -1 else 0) := fun k => ((sc18 64 (by omega)).2 k).1.trans (I17 k)
  refine ⟨k18, fun g19 q19 => ?_⟩
  obtain ⟨m19, sc19, y19, i19, r19⟩ := fst64 q19
  have n19 : hn g19 = 119 := m19.trans n18
  have k19 : hk g19 64 = 7 := y19.trans k18
  have R19 : ∀ k, hr g19 64 k = (if k = 14 then 117 else (if k = 13 then 116 else (if k = 12 then 115 else (if k = 9 then 114 else (if k = 8 then 100 else (if k = 7 then 90 else (if k = 6 then 76 else (if k = 5 then 66 else (if k = 0 then 65 else 0))))))))) := fun k => by rw [r19, R18]
  have I19 : ∀ k, hi g19 64 k = (if k = 3 then -1 else 0) := fun k => (i19 k).trans (I18 k)
  have T19 : ∀ r, r < 119 → r ≠ 64 → SC g19 g19 r := fun r _ _ => SC.refl g19 r
  have T18 : ∀ r, r < 119 → r ≠ 64 → SC g18 g19 r := fun r a b => (sc19 r (by omega)).trans (T19 r (by omega) b)
  have T17 : ∀ r, r < 117 → r ≠ 64 → SC g17 g19 r := fun r a b => (sc18 r (by omega)).trans (T18 r (by omega) b)
  have T16 : ∀ r, r < 117 → r ≠ 64 → SC g16 g19 r := fun r a b => (sc17 r (by omega)).trans (T17 r (by omega) b)
  have T15 : ∀ r, r < 116 → r ≠ 64 → SC g15 g19 r := fun r a b => (sc16 r (by omega)).trans (T16 r (by omega) b)
  have T14 : ∀ r, r < 116 → r ≠ 64 → SC g14 g19 r := fun r a b => (sc15 r (by omega)).trans (T15 r (by omega) b)
  have T13 : ∀ r, r < 115 → r ≠ 64 → SC g13 g19 r := fun r a b => (sc14 r (by omega)).trans (T14 r (by omega) b)
  have T12 : ∀ r, r < 115 → r ≠ 64 → SC g12 g19 r := fun r a b => (sc13 r (by omega)).trans (T13 r (by omega) b)
  have T11 : ∀ r, r < 114 → r ≠ 64 → SC g11 g19 r := fun r a b => (sc12 r (by omega)).trans (T12 r (by omega) b)
  have T10 : ∀ r, r < 114 → r ≠ 64 → SC g10 g19 r := fun r a b => (sc11 r (by omega)).trans (T11 r (by omega) b)
  have T9 : ∀ r, r < 100 → r ≠ 64 → SC g9 g19 r := fun r a b => (sc10 r (by omega)).trans (T10 r (by omega) b)
  have T8 : ∀ r, r < 100 → r ≠ 64 → SC g8 g19 r := fun r a b => (sc9 r (by omega)).trans (T9 r (by omega) b)
  have T7 : ∀ r, r < 90 → r ≠ 64 → SC g7 g19 r := fun r a b => (sc8 r (by omega)).trans (T8 r (by omega) b)
  have T6 : ∀ r, r < 90 → r ≠ 64 → SC g6 g19 r := fun r a b => (sc7 r (by omega)).trans (T7 r (by omega) b)
  have T5 : ∀ r, r < 76 → r ≠ 64 → SC g5 g19 r := fun r a b => (sc6 r (by omega)).trans (T6 r (by omega) b)
  have T4 : ∀ r, r < 76 → r ≠ 64 → SC g4 g19 r := fun r a b => (sc5 r (by omega)).trans (T5 r (by omega) b)
  have T3 : ∀ r, r < 66 → r ≠ 64 → SC g3 g19 r := fun r a b => (sc4 r (by omega)).trans (T4 r (by omega) b)
  have T2 : ∀ r, r < 66 → r ≠ 64 → SC g2 g19 r := fun r a b => (sc3 r (by omega)).trans (T3 r (by omega) b)
  have T1 : ∀ r, r < 66 → r ≠ 64 → SC g1 g19 r := fun r a b => (sc2 r (by omega)).trans (T2 r (by omega) b)
  have T0 : ∀ r, r < 65 → r ≠ 64 → SC h g19 r := fun r a b => (sc1 r (by omega)).trans (T1 r (by omega) b)
  have X64 : ∀ k, hr g19 64 k = (if k = 14 then 117 else (if k = 13 then 116 else (if k = 12 then 115 else (if k = 9 then 114 else (if k = 8 then 100 else (if k = 7 then 90 else (if k = 6 then 76 else (if k = 5 then 66 else (if k = 0 then 65 else 0))))))))) := R19
  refine H g19 n19 (fun r a => T0 r (by omega) (by omega)) ⟨⟨k19, X64 0, X64 5, X64 6, X64 14⟩, ⟨X64 7, X64 8, X64 9, X64 12, X64 13⟩, ⟨I19 3, fun k a => (I19 k).trans (if_neg a)⟩, ⟨⟨_, b4.sc (fun r a b => T4 r (by omega) (by omega)) rP_lt⟩, ⟨_, RMK.sc ⟨b6, b66, b96⟩ (fun r a b => T6 r (by omega) (by omega))⟩, ⟨_, b8.sc (fun r a b => T8 r (by omega) (by omega)) rP_lt⟩, ⟨_, RMK.sc ⟨b10, b610, b910⟩ (fun r a b => T10 r (by omega) (by omega))⟩⟩, ?_, ?_, ?_, ?_, b18.sc (fun r a b => T18 r (by omega) (by omega)) rO_lt⟩
  · have t := T1 65 (by omega) (by omega)
    exact ⟨t.k.trans b1.1, t.l.trans b1.2.1, fun k => (t.2 k).1.trans (b1.2.2.1 k)⟩
  · have t := T12 114 (by omega) (by omega)
    exact ⟨t.k.trans b12.1, t.l.trans b12.2.1, fun k => (t.2 k).2.trans (b12.2.2.2 k)⟩
  · have t := T14 115 (by omega) (by omega)
    exact ⟨t.k.trans b14.1, t.l.trans b14.2.1, fun k => (t.2 k).2.trans (b14.2.2.2 k)⟩
  · have t := T16 116 (by omega) (by omega)
    exact ⟨t.k.trans b16.1, t.l.trans b16.2.1, fun k => (t.2 k).1.trans (b16.2.2.1 k)⟩
