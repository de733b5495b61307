/-! the rooms of the halls that are kept -/
def RMK (h : PH) (a : Nat) (E : Nat → Int → Int) : Prop := Hx a h h E ∧ E 6 0 = 13 ∧ E 9 0 = 4
theorem rH_lt : ∀ q ∈ rH, q.1 < 14 := by decide
theorem rP_lt : ∀ q ∈ rP, q.1 < 10 := by decide
theorem RMK.sc {h h' : PH} {a : Nat} {E : Nat → Int → Int} (M : RMK h a E) (S : ∀ r, a ≤ r → r < a + 14 → SC h h' r) : RMK h' a E := ⟨M.1.sc S rH_lt, M.2⟩
/-- a row of rooms at w, where nothing but the reference k has changed -/
def RW1 (h h' : PH) (w k v : Nat) : Prop := h'.2.1 w = h.2.1 w ∧ (∀ f, hi h' w f = hi h w f) ∧ ∀ f, hr h' w f = if f = k then v else hr h w f
/-- what roomAt does: the room a at the place k of the row w -/
def RMA (h h' : PH) (w k a : Nat) : Prop := (hr h w k ≠ 0 ∧ a = hr h w k ∧ h' = h) ∨ (hr h w k = 0 ∧ a = hn h ∧ hn h' = hn h + 14 ∧ (∀ r, r < hn h → r ≠ w → SC h h' r) ∧ RW1 h h' w k (hn h) ∧ ∃ E, RMK h' (hn h) E)
section RA
variable {call : PC} {mc ms fr : Nat} {Q : Int → PH → Prop} {X : Nat → PH → Prop} {K : PK}
set_option maxRecDepth 100000 in
theorem v_X6_roomAt_0 (a0 : Nat) (i1 : Int) (z2 : Option PV) (h : PH) (c s : Nat) (H : InR i1 ∧ (i1 < 0 →
 (c + 1 ≤ mc ∧ s + 15 ≤ ms) ∧ ∀ h1, h1 = hnew h 1 15 →
 hk h1 (hn h) = 1 ∧ ((c + 1) + 15 ≤ mc ∧ (s + 15) + 1600 ≤ ms) ∧ call m_X0_init [pA (hn h)] h1 (fun _ h2 =>
 Q (hn h : Nat) h2) X) ∧
(0 ≤ i1 →
 (20 ≤ hk h a0 ∧ hk h a0 ≤ 26) ∧ InR i1 ∧ InR ((hl h a0 : Int)) ∧ (i1 < ((hl h a0 : Int)) →
 hk h a0 = 25 ∧ (0 ≤ i1 ∧ i1 < (hl h a0 : Int)) ∧ ((hr h a0 (Int.toNat i1)) = 0 →
 (c + 1 ≤ mc ∧ s + 15 ≤ ms) ∧ ∀ h3, h3 = hnew h 1 15 →
 hk h3 (hn h) = 1 ∧ ((c + 1) + 15 ≤ mc ∧ (s + 15) + 1600 ≤ ms) ∧ call m_X0_init [pA (hn h)] h3 (fun _ h4 =>
 hk h4 a0 = 25 ∧ (0 ≤ i1 ∧ i1 < (hl h4 a0 : Int)) ∧ hk h4 (hn h) = 1 ∧ ∀ h5, h5 = hsr h4 a0 (Int.toNat i1) (hn h) →
 Q (hn h : Nat) h5) X) ∧
((hr h a0 (Int.toNat i1)) ≠ 0 →
 Q (hr h a0 (Int.toNat i1) : Nat) h)) ∧
(((hl h a0 : Int)) ≤ i1 →
 (c + 1 ≤ mc ∧ s + 15 ≤ ms) ∧ ∀ h6, h6 = hnew h 1 15 →
 hk h6 (hn h) = 1 ∧ ((c + 1) + 15 ≤ mc ∧ (s + 15) + 1600 ≤ ms) ∧ call m_X0_init [pA (hn h)] h6 (fun _ h7 =>
 Q (hn h : Nat) h7) X))) : wpc k_X6_roomAt [] call mc ms fr Q X [] K 400 (pto 0 k_X6_roomAt) [some (pA a0), some (pI i1), z2] [] h c s :=
  H

set_option maxRecDepth 100000 in
theorem v_X6_remember_0 (a0 : Nat) (h : PH) (c s : Nat) (H : hk h a0 = 7 ∧ hk h a0 = 7 ∧ (c + 16 ≤ mc ∧ s + 1620 ≤ ms) ∧ call m_X6_roomAt [pA (hr h a0 9), pI (hi h a0 10)] h (fun x1 h1 =>
 hk h1 a0 = 7 ∧ hk h1 (Int.toNat x1) = 1 ∧ call m_X0_copyFrom [pA (Int.toNat x1), pA (hr h1 a0 6)] h1 (fun _ h2 =>
 hk h2 a0 = 7 ∧ InR (hi h2 a0 10) ∧ InR 7 ∧ ((hi h2 a0 10) < 7 →
 hk h2 a0 = 7 ∧ hk h2 a0 = 7 ∧ ∀ h3, h3 = hsi h2 a0 10 ((hi h2 a0 10) + 1) →
 hk h3 a0 = 7 ∧ InR (hi h3 a0 11) ∧ InR 8 ∧ ((hi h3 a0 11) < 8 →
 hk h3 a0 = 7 ∧ hk h3 a0 = 7 ∧ ∀ h4, h4 = hsi h3 a0 11 ((hi h3 a0 11) + 1) →
 Q 0 h4) ∧
(8 ≤ (hi h3 a0 11) →
 hk h3 a0 = 7 ∧ ∀ h5, h5 = hsi h3 a0 11 8 →
 Q 0 h5)) ∧
(7 ≤ (hi h2 a0 10) →
 hk h2 a0 = 7 ∧ ∀ h6, h6 = hsi h2 a0 10 0 →
 hk h6 a0 = 7 ∧ InR (hi h6 a0 11) ∧ InR 8 ∧ ((hi h6 a0 11) < 8 →
 hk h6 a0 = 7 ∧ hk h6 a0 = 7 ∧ ∀ h7, h7 = hsi h6 a0 11 ((hi h6 a0 11) + 1) →
 Q 0 h7) ∧
(8 ≤ (hi h6 a0 11) →
 hk h6 a0 = 7 ∧ ∀ h8, h8 = hsi h6 a0 11 8 →
 Q 0 h8))) X) X) : wpc k_X6_remember [] call mc ms fr Q X [] K 400 (pto 0 k_X6_remember) [some (pA a0)] [] h c s :=
  H

end RA
theorem S_X6_roomAt {d w n : Nat} {h : PH} {i : Int} {Q : Int → PH → Prop} {X : Nat → PH → Prop} (hw : hk h w = 25 ∧ hl h w = n) (hix : 0 ≤ i ∧ i < n) (hn100 : n ≤ 100) (hb : hn h ≠ 0) (hwn : w < hn h) (H : ∀ h' (a : Nat), RMA h h' w i.toNat a → Q (a : Int) h') : RUN GQ (d + 3) m_X6_roomAt [pA w, pI i] h Q X := by
  rw [e_X6_roomAt]
  refine WP.of (RUN.mono GQ _) (cuts := []) (n := 400) (v_X6_roomAt_0 _ _ _ _ _ _ ?_)
  refine ⟨ir (by omega) (by omega), fun c => absurd c (by omega), fun c1 => ⟨⟨by rw [hw.1]; omega, by rw [hw.1]; omega⟩, ir (by omega) (by omega), by rw [hw.2]; exact ir (by omega) (by omega), fun c2 => ⟨hw.1, ⟨c1, c2⟩, fun c3 => ?_, fun c3 => ?_⟩, fun c2 => absurd c2 (by rw [hw.2]; omega)⟩⟩
  · refine ⟨⟨by omega, by omega⟩, fun h3 q3 => ?_⟩
    have A := AL.begin h 1 15 kH lH rfl rfl
    rw [← q3] at A
    refine ⟨A.k (j := 0) (by decide), ⟨by omega, by omega⟩, ?_⟩
    refine S_X0_init A hb (fun x h4 E e n4 S M r6 r9 => ?_)
    refine ⟨(S w hwn).k.trans hw.1, ⟨c1, by rw [(S w hwn).l]; exact c2⟩, M.k 0 (by decide) rfl, fun h5 q5 => ?_⟩
    have S5 : ∀ r, r ≠ w → SC h4 h5 r := fun r hr' => by rw [q5]; exact ⟨rfl, fun k => ⟨rfl, if_neg (by omega)⟩⟩
    refine H h5 (hn h) (Or.inr ⟨c3, rfl, by rw [q5]; exact n4, fun r h1 h2 => (S r h1).trans (S5 r h2), ?_, E, ?_⟩)
    · refine ⟨by rw [q5]; exact (S w hwn).1, fun f => by rw [q5]; exact ((S w hwn).2 f).1, fun f => ?_⟩
      rw [q5]
      show (if w = w ∧ f = i.toNat then hn h else hr h4 w f) = _
      by_cases z : f = i.toNat
      · rw [if_pos ⟨rfl, z⟩, if_pos z]
      · rw [if_neg (fun y => z y.2), if_neg z]
        exact ((S w hwn).2 f).2
    · exact RMK.sc ⟨M, r6, r9⟩ (fun r h1 h2 => S5 r (by omega))
  · exact H h _ (Or.inl ⟨c3, rfl, rfl⟩)
/-- what 'remember' does -/
def RMB (h h' : PH) (nx a : Nat) (cnt : Int) : Prop :=
  (hr h 114 nx ≠ 0 ∧ a = hr h 114 nx ∧ hn h' = hn h ∨ hr h 114 nx = 0 ∧ a = hn h ∧ hn h' = hn h + 14) ∧ (∀ r, r < hn h → r ≠ 64 → r ≠ 114 → ¬ (a ≤ r ∧ r < a + 14) → SC h h' r) ∧
  (h'.2.1 64 = h.2.1 64 ∧ (∀ k, hr h' 64 k = hr h 64 k) ∧ (∀ k, k ≠ 10 → k ≠ 11 → hi h' 64 k = hi h 64 k) ∧ hi h' 64 10 = ((if (nx : Int) < 7 then (nx : Int) + 1 else 0) : Int) ∧ hi h' 64 11 = if cnt < 8 then cnt + 1 else 8) ∧ RW1 h h' 114 nx a
theorem S_X6_remember {d nx A B : Nat} {h : PH} {EP E D : Nat → Int → Int} {s : Int → Int} {N cnt : Int} {Q : Int → PH → Prop} {X : Nat → PH → Prop} (T : FT h B A EP E D s) (hp : hr h 64 9 = 114 ∧ hi h 64 10 = nx ∧ hi h 64 11 = cnt) (hnx : nx < 8) (hc : 0 ≤ cnt ∧ cnt ≤ 8) (hw : hk h 114 = 25 ∧ hl h 114 = 8) (hA : (66 ≤ A ∧ A + 14 ≤ 114)) (hN : 141 ≤ hn h) (hroom : hr h 114 nx ≠ 0 → 141 ≤ hr h 114 nx ∧ hr h 114 nx + 14 ≤ hn h ∧ ∃ F, RMK h (hr h 114 nx) F)
    (I : HI (D 0 3) (D 0 4) (D 0 2) N s) (R : HR E (D 0 2) (D 0 3) s) (sw : s (-1) = -1) (H : ∀ h' a F, RMB h h' nx a cnt → RMK h' a F → HR F (D 0 2) (D 0 3) s → (141 ≤ a ∧ a + 14 ≤ hn h') → Q 0 h') : RUN GQ (d + 4) m_X6_remember [pA 64] h Q X := by
  rw [e_X6_remember]
  refine WP.of (RUN.mono GQ _) (cuts := []) (n := 400) (v_X6_remember_0 _ _ _ _ ?_)
  refine ⟨T.k, T.k, ⟨by omega, by omega⟩, ?_⟩
  rw [hp.1, hp.2.1]
  refine S_X6_roomAt (n := 8) hw ⟨by omega, by omega⟩ (by omega) (by omega) (by omega) (fun h1 a ra => ?_)
  rw [Int.toNat_natCast] at ra ⊢
  -- the room stands, the rest is as it was
  have key : (∃ F, RMK h1 a F) ∧ (∀ r, r < hn h → r ≠ 114 → SC h h1 r) ∧ RW1 h h1 114 nx a ∧ (141 ≤ a ∧ a + 14 ≤ hn h1) ∧ (hr h 114 nx ≠ 0 ∧ a = hr h 114 nx ∧ hn h1 = hn h ∨ hr h 114 nx = 0 ∧ a = hn h ∧ hn h1 = hn h + 14) := by
    rcases ra with ⟨r1, r2, r3⟩ | ⟨r1, r2, r3, r4, r5, r6⟩
    · subst r3
      have q := hroom r1
      rw [← r2] at q
      exact ⟨q.2.2, fun r _ _ => SC.refl _ r, ⟨rfl, fun _ => rfl, fun f => by
        by_cases z : f = nx
        · rw [if_pos z, z, r2]
        · rw [if_neg z]⟩, ⟨q.1, q.2.1⟩, Or.inl ⟨r1, r2, rfl⟩⟩
    · rw [← r2] at r5 r6
      exact ⟨r6, r4, r5, ⟨by omega, by omega⟩, Or.inr ⟨r1, r2, r3⟩⟩
  obtain ⟨⟨F, rm⟩, S1, rw1, ra2, ra3⟩ := key
  have s64 := S1 64 (by omega) (by omega)
  have MA1 : Hx A h1 h1 E := T.M.sc (fun r a1 a2 => S1 r (by omega) (by omega)) rH_lt
  refine ⟨s64.k.trans T.k, rm.1.k 0 (by decide) rfl, ?_⟩
  rw [(s64.2 6).2, T.r6]
  have qc : ∀ p, 0 ≤ p → p < 6 → s (115 + p) ≤ 13 := fun p x y => by have := I.qn ⟨x, y⟩; have := I.hq.1; omega
  have sc : ∀ p, 0 ≤ p → p < 6 → s (511 + p) ≤ 4 := fun p x y => (I.sn ⟨x, y⟩).2
  refine S_X0_copyFrom rm.1 MA1 (by omega) (fun x h2 e2 M2 => ?_)
  have R2 := cpE_HR (E := F) R rm.2.1 rm.2.2 qc sc sw
  have T64 : SC h1 h2 64 := M2.2.1.sc (by omega)
  have f10 : hi h2 64 10 = nx := by rw [(T64.2 10).1, (s64.2 10).1]; exact hp.2.1
  have f11 : hi h2 64 11 = cnt := by rw [(T64.2 11).1, (s64.2 11).1]; exact hp.2.2
  have k64 : hk h2 64 = 7 := T64.k.trans (s64.k.trans T.k)
  have n2 : hn h2 = hn h1 := M2.2.1.1
  -- the two numbers are written
  have fin : ∀ (u v : Int), u = ((if (nx : Int) < 7 then (nx : Int) + 1 else 0) : Int) → v = (if cnt < 8 then cnt + 1 else 8) → Q 0 (hsi (hsi h2 64 10 u) 64 11 v) := by
    intro u v hu hv
    have S3 : ∀ r, r ≠ 64 → SC h2 (hsi (hsi h2 64 10 u) 64 11 v) r := fun r hr' => ⟨rfl, fun k => ⟨by rw [hi_hsi, if_neg (by omega), hi_hsi, if_neg (by omega)], rfl⟩⟩
    refine H _ a (cpE E F) ⟨?_, fun r h0 h1' h2' h3' => ?_, ⟨?_, fun k => ?_, fun k y z => ?_, ?_, ?_⟩, ?_⟩ ?_ R2 ?_
    · show hr h 114 nx ≠ 0 ∧ a = hr h 114 nx ∧ hn h2 = hn h ∨ hr h 114 nx = 0 ∧ a = hn h ∧ hn h2 = hn h + 14
      rw [n2]; exact ra3
    · exact ((S1 r h0 h2').trans (M2.2.1.sc h3')).trans (S3 r h1')
    · show h2.2.1 64 = _
      exact T64.1.trans s64.1
    · show hr h2 64 k = _
      exact ((T64.2 k).2).trans (s64.2 k).2
    · rw [hi_hsi, if_neg (by omega), hi_hsi, if_neg (by omega)]
      exact ((T64.2 k).1).trans (s64.2 k).1
    · rw [hi_hsi, if_neg (by omega), hi_hsi, if_pos ⟨rfl, rfl⟩]; exact hu
    · rw [hi_hsi, if_pos ⟨rfl, rfl⟩]; exact hv
    · have z : SC h1 h2 114 := M2.2.1.sc (by omega)
      have z2 := S3 114 (by omega)
      refine ⟨z2.1.trans (z.1.trans rw1.1), fun f => (z2.2 f).1.trans ((z.2 f).1.trans (rw1.2.1 f)), fun f => (z2.2 f).2.trans ((z.2 f).2.trans (rw1.2.2 f))⟩
    · exact RMK.sc ⟨M2.now, by rw [cpE_6.1]; exact rm.2.1, by rw [cpE_6.2]; exact rm.2.2⟩ (fun r y z => S3 r (by omega))
    · show 141 ≤ a ∧ a + 14 ≤ hn h2
      rw [n2]; exact ra2
  refine ⟨k64, by rw [f10]; exact ir (by omega) (by omega), ir (by omega) (by omega), fun c1 => ⟨k64, k64, fun h3 q3 => ?_⟩, fun c1 => ⟨k64, fun h3 q3 => ?_⟩⟩
  · have e3 : hi h3 64 11 = cnt := by rw [q3, hi_hsi, if_neg (by omega)]; exact f11
    have k3 : hk h3 64 = 7 := by rw [q3]; exact k64
    rw [f10] at c1 q3
    refine ⟨k3, by rw [e3]; exact ir (by omega) (by omega), ir (by omega) (by omega), fun c2 => ⟨k3, k3, fun h4 q4 => ?_⟩, fun c2 => ⟨k3, fun h4 q4 => ?_⟩⟩
    · rw [e3] at q4 c2
      rw [q4, q3]
      exact fin _ _ (if_pos c1).symm (if_pos c2).symm
    · rw [e3] at c2
      rw [q4, q3]
      exact fin _ _ (if_pos c1).symm (if_neg (by omega)).symm
  · have e3 : hi h3 64 11 = cnt := by rw [q3, hi_hsi, if_neg (by omega)]; exact f11
    have k3 : hk h3 64 = 7 := by rw [q3]; exact k64
    rw [f10] at c1
    refine ⟨k3, by rw [e3]; exact ir (by omega) (by omega), ir (by omega) (by omega), fun c2 => ⟨k3, k3, fun h4 q4 => ?_⟩, fun c2 => ⟨k3, fun h4 q4 => ?_⟩⟩
    · rw [e3] at q4 c2
      rw [q4, q3]
      exact fin _ _ (if_neg (by omega)).symm (if_pos c2).symm
    · rw [e3] at c2
      rw [q4, q3]
      exact fin _ _ (if_neg (by omega)).symm (if_neg (by omega)).symm
