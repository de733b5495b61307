/-! the law's own calls of the class (written by wip/whole/tools/gencf.py) -/
def OS (h : PH) : Prop := (hk h 139 = 23 ∧ hl h 139 = 1) ∧ hk h 140 = 24 ∧ hl h 140 = 1
/-- nothing but the class's cells and the two outs -/
def CG (h h' : PH) : Prop := hn h ≤ hn h' ∧ (∀ r, r < 141 → ¬ (64 ≤ r ∧ r < 119) → r ≠ 139 → r ≠ 140 → SC h h' r) ∧ h'.2.1 139 = h.2.1 139 ∧ h'.2.1 140 = h.2.1 140
theorem CF.cg {h h' : PH} (c : CF h h') : CG h h' := ⟨c.1, fun r a b _ _ => c.2 r a b, (c.2 139 (by decide) (by omega)).1, (c.2 140 (by decide) (by omega)).1⟩
theorem CF.of {h h' : PH} {b n : Nat} (S : Sa b n h h') (hb : 64 ≤ b ∧ b + n ≤ 119) : CF h h' := ⟨by rw [show hn h' = hn h from S.1]; exact Nat.le_refl _, fun r x y => S.sc (by omega)⟩
theorem OS.cg {h h' : PH} (o : OS h) (c : CG h h') : OS h' := by
  obtain ⟨⟨o1, o2⟩, o3, o4⟩ := o
  unfold hk at o1 o3
  unfold hl at o2 o4
  refine ⟨⟨?_, ?_⟩, ?_, ?_⟩
  · unfold hk; rw [c.2.2.1]; exact o1
  · unfold hl; rw [c.2.2.1]; exact o2
  · unfold hk; rw [c.2.2.2]; exact o3
  · unfold hl; rw [c.2.2.2]; exact o4
/-- an answer is laid into the out -/
theorem W_out {h h1 : PH} {x : Int} {Q : Int → PH → Prop} (o : OS h) (c : CF h h1) (r : InR x) (H : ∀ h2, CG h h2 → hi h2 139 0 = x → (∀ D' s' N', CP h1 D' s' N' → CP h2 D' s' N') → Q 0 h2) : InR x ∧ hk h1 139 = 23 ∧ (0 ≤ (0 : Int) ∧ (0 : Int) < (hl h1 139 : Int)) ∧ ∀ h2, h2 = hsi h1 139 (Int.toNat (0 : Int)) x → Q 0 h2 := by
  have g := c.cg
  have o1 := o.cg g
  refine ⟨r, o1.1.1, ⟨by decide, by rw [o1.1.2]; decide⟩, fun h2 q2 => ?_⟩
  have sc : ∀ r, r ≠ 139 → SC h1 h2 r := fun r a => by
    rw [q2]
    exact ⟨rfl, fun k => ⟨by rw [hi_hsi, if_neg (by omega)], rfl⟩⟩
  have t2 : h2.2.1 = h1.2.1 := by rw [q2]; rfl
  have n2 : hn h2 = hn h1 := by rw [q2]; rfl
  have gn := g.1
  refine H h2 ⟨by omega, fun r a b c1 d => (g.2.1 r a b c1 d).trans (sc r c1), by rw [t2]; exact g.2.2.1, by rw [t2]; exact g.2.2.2⟩ ?_ (fun D' s' N' C => C.sc (fun r a b => sc r (by omega)) (by omega) (Int.le_refl _))
  rw [q2]
  show (if 139 = 139 ∧ 0 = Int.toNat (0 : Int) then x else hi h1 139 0) = x
  rw [if_pos ⟨rfl, rfl⟩]
section VAM
variable {D : Nat → Int → Int} {s : Int → Int} {N : Int}
theorem V_clear (G : CD D s N) {p : Int} (t : ck (tL D) p 0 (D 0 4 - 1) 2 = 0) : InR (s (115 + p)) := by
  obtain ⟨I, V, sw⟩ := G.u (tL_n (ck_t t))
  have a := ck_v t (by decide)
  have v4 := V.2.2.1
  have q := I.qn (p := p) (by omega)
  have m := I.hq.1
  exact ir (by omega) (by omega)
theorem V_setKind (G : CD D s N) {k w v : Int} (t : ck (ck (ck (tL D) k 0 (D 0 3 - 1) 2) w 0 (2) 3) v (knl w) (knh w) 3 = 0) : InR (kn s k w) := by
  have l := tL_n (ck_t (ck_t (ck_t t)))
  have v3 := (G.u l).2.1.2.1
  have a := ck_v (ck_t (ck_t t)) (by decide)
  exact V_kn G l (by omega) (ck_v (ck_t t) (by decide))
theorem V_set (G : CD D s N) {w v : Int} (t : ck (ck (tL D) w 0 (2) 2) v (stl w) (sth w) 2 = 0) : InR (s (10 + w)) := by
  obtain ⟨I, V, sw⟩ := G.u (tL_n (ck_t (ck_t t)))
  have a := ck_v (ck_t t) (by decide)
  have o := I.ho
  unfold HIo at o
  have hw : w = 0 ∨ w = 1 ∨ w = 2 := by omega
  rcases hw with rfl | rfl | rfl
  · exact show InR (s 10) from ir (by omega) (by omega)
  · exact show InR (s 11) from ir (by omega) (by omega)
  · exact show InR (s 12) from ir (by omega) (by omega)
theorem wq_400 (G : CD D s N) {p : Int} (t : ck (tL D) p 0 (D 0 4 - 1) 2 = 0) : (wqL D s p (s (115 + p)).toNat 0 []).length ≤ 400 ∧ LI (wqL D s p (s (115 + p)).toNat 0 []) := by
  obtain ⟨I, V, sw⟩ := G.u (tL_n (ck_t t))
  have a := ck_v t (by decide)
  have v4 := V.2.2.1
  have v1 := V.1
  have v3 := V.2.1
  have q := I.qn (p := p) (by omega)
  have b := wq_len D s p (s (115 + p)).toNat 0 []
  have z : ([] : List Int).length = 0 := rfl
  exact ⟨by omega, wq_LI I G.n1 v3.2 (by omega) _ 0 [] LI.nil (by omega) (by omega)⟩
theorem ws_400 (G : CD D s N) {p : Int} (t : ck (tL D) p 0 (D 0 4 - 1) 2 = 0) : (wsL D s p (s (511 + p)).toNat []).length ≤ 400 ∧ LI (wsL D s p (s (511 + p)).toNat []) := by
  obtain ⟨I, V, sw⟩ := G.u (tL_n (ck_t t))
  have a := ck_v t (by decide)
  have v4 := V.2.2.1
  have v3 := V.2.1
  have q := I.sn (p := p) (by omega)
  have b := ws_len D s p (s (511 + p)).toNat []
  have z : ([] : List Int).length = 0 := rfl
  exact ⟨by omega, ws_LI I G.n1 v3.2 (by omega) _ [] LI.nil (by omega)⟩
theorem we_400 (G : CD D s N) (hN : N ≤ 99999999) (t : tL D = 0) : (weL s (tld s).toNat 0 []).length ≤ 400 ∧ LI (weL s (tld s).toNat 0 []) := by
  obtain ⟨I, V, sw⟩ := G.u (tL_n t)
  have e2 := I.e2
  have tl : tld s ≤ 40 ∧ 0 ≤ tld s := by
    unfold tld
    split <;> omega
  have b := we_len I hN (tld s).toNat 0 [] (by omega) (by omega)
  have z : ([] : List Int).length = 0 := rfl
  exact ⟨by omega, we_LI s _ 0 [] LI.nil⟩
theorem V_wq (G : CD D s N) {p : Int} (t : ck (tL D) p 0 (D 0 4 - 1) 2 = 0) : InR (((wqL D s p (s (115 + p)).toNat 0 []).length : Nat) : Int) := by
  have := (wq_400 G t).1
  exact ir (by omega) (by omega)
theorem V_ws (G : CD D s N) {p : Int} (t : ck (tL D) p 0 (D 0 4 - 1) 2 = 0) : InR (((wsL D s p (s (511 + p)).toNat []).length : Nat) : Int) := by
  have := (ws_400 G t).1
  exact ir (by omega) (by omega)
theorem V_we (G : CD D s N) (hN : N ≤ 99999999) (t : tL D = 0) : InR (((weL s (tld s).toNat 0 []).length : Nat) : Int) := by
  have := (we_400 G hN t).1
  exact ir (by omega) (by omega)
end VAM
section LWV
variable {call : PC} {mc ms fr : Nat} {Q : Int → PH → Prop} {X : Nat → PH → Prop} {K : PK}
set_option maxRecDepth 100000 in
theorem v_L_count_0 (a0 : Nat) (i1 : Int) (a2 : Nat) (z3 : Option PV) (h : PH) (c s : Nat) (H : hk h a0 = 7 ∧ (c + 24 ≤ mc ∧ s + 1700 ≤ ms) ∧ call m_X6_count [pA a0, pI i1] h (fun x1 h1 =>
 InR x1 ∧ hk h1 a2 = 23 ∧ (0 ≤ (0 : Int) ∧ (0 : Int) < (hl h1 a2 : Int)) ∧ ∀ h2, h2 = hsi h1 a2 (Int.toNat (0 : Int)) x1 →
 Q 0 h2) (fun e h1 => (e = 0 →
 Q 1 h1) ∧
(e ≠ 0 →
 (e = 1 →
 Q 2 h1) ∧
(e ≠ 1 →
 X e h1)))) : wpc k_L_count [(0, 9, 0, 13, 3), (0, 9, 1, 16, 3)] call mc ms fr Q X [] K 400 (pto 0 k_L_count) [some (pA a0), some (pI i1), some (pA a2), z3] [] h c s :=
  H

set_option maxRecDepth 100000 in
theorem v_L_setting_0 (a0 : Nat) (i1 : Int) (a2 : Nat) (z3 : Option PV) (h : PH) (c s : Nat) (H : hk h a0 = 7 ∧ (c + 24 ≤ mc ∧ s + 1700 ≤ ms) ∧ call m_X6_setting [pA a0, pI i1] h (fun x1 h1 =>
 InR x1 ∧ hk h1 a2 = 23 ∧ (0 ≤ (0 : Int) ∧ (0 : Int) < (hl h1 a2 : Int)) ∧ ∀ h2, h2 = hsi h1 a2 (Int.toNat (0 : Int)) x1 →
 Q 0 h2) (fun e h1 => (e = 0 →
 Q 1 h1) ∧
(e ≠ 0 →
 (e = 1 →
 Q 2 h1) ∧
(e ≠ 1 →
 X e h1)))) : wpc k_L_setting [(0, 9, 0, 13, 3), (0, 9, 1, 16, 3)] call mc ms fr Q X [] K 400 (pto 0 k_L_setting) [some (pA a0), some (pI i1), some (pA a2), z3] [] h c s :=
  H

set_option maxRecDepth 100000 in
theorem v_L_kind_0 (a0 : Nat) (i1 : Int) (i2 : Int) (a3 : Nat) (z4 : Option PV) (h : PH) (c s : Nat) (H : hk h a0 = 7 ∧ (c + 24 ≤ mc ∧ s + 1700 ≤ ms) ∧ call m_X6_kind [pA a0, pI i1, pI i2] h (fun x1 h1 =>
 InR x1 ∧ hk h1 a3 = 23 ∧ (0 ≤ (0 : Int) ∧ (0 : Int) < (hl h1 a3 : Int)) ∧ ∀ h2, h2 = hsi h1 a3 (Int.toNat (0 : Int)) x1 →
 Q 0 h2) (fun e h1 => (e = 0 →
 Q 1 h1) ∧
(e ≠ 0 →
 (e = 2 →
 Q 2 h1) ∧
(e ≠ 2 →
 (e = 1 →
 Q 3 h1) ∧
(e ≠ 1 →
 X e h1))))) : wpc k_L_kind [(0, 10, 0, 15, 4), (0, 10, 2, 19, 4), (0, 10, 1, 23, 4)] call mc ms fr Q X [] K 400 (pto 0 k_L_kind) [some (pA a0), some (pI i1), some (pI i2), some (pA a3), z4] [] h c s :=
  H

set_option maxRecDepth 100000 in
theorem v_L_program_0 (a0 : Nat) (i1 : Int) (i2 : Int) (a3 : Nat) (z4 : Option PV) (h : PH) (c s : Nat) (H : hk h a0 = 7 ∧ (c + 24 ≤ mc ∧ s + 1700 ≤ ms) ∧ call m_X6_program [pA a0, pI i1, pI i2] h (fun x1 h1 =>
 InR x1 ∧ hk h1 a3 = 23 ∧ (0 ≤ (0 : Int) ∧ (0 : Int) < (hl h1 a3 : Int)) ∧ ∀ h2, h2 = hsi h1 a3 (Int.toNat (0 : Int)) x1 →
 Q 0 h2) (fun e h1 => (e = 0 →
 Q 1 h1) ∧
(e ≠ 0 →
 (e = 2 →
 Q 2 h1) ∧
(e ≠ 2 →
 (e = 1 →
 Q 3 h1) ∧
(e ≠ 1 →
 X e h1))))) : wpc k_L_program [(0, 10, 0, 15, 4), (0, 10, 2, 19, 4), (0, 10, 1, 23, 4)] call mc ms fr Q X [] K 400 (pto 0 k_L_program) [some (pA a0), some (pI i1), some (pI i2), some (pA a3), z4] [] h c s :=
  H

set_option maxRecDepth 100000 in
theorem v_L_handler_0 (a0 : Nat) (i1 : Int) (i2 : Int) (i3 : Int) (a4 : Nat) (z5 : Option PV) (h : PH) (c s : Nat) (H : hk h a0 = 7 ∧ (c + 24 ≤ mc ∧ s + 1700 ≤ ms) ∧ call m_X6_handler [pA a0, pI i1, pI i2, pI i3] h (fun x1 h1 =>
 InR x1 ∧ hk h1 a4 = 23 ∧ (0 ≤ (0 : Int) ∧ (0 : Int) < (hl h1 a4 : Int)) ∧ ∀ h2, h2 = hsi h1 a4 (Int.toNat (0 : Int)) x1 →
 Q 0 h2) (fun e h1 => (e = 0 →
 Q 1 h1) ∧
(e ≠ 0 →
 (e = 2 →
 Q 2 h1) ∧
(e ≠ 2 →
 (e = 1 →
 Q 3 h1) ∧
(e ≠ 1 →
 X e h1))))) : wpc k_L_handler [(0, 12, 0, 17, 5), (0, 12, 2, 21, 5), (0, 12, 1, 25, 5)] call mc ms fr Q X [] K 400 (pto 0 k_L_handler) [some (pA a0), some (pI i1), some (pI i2), some (pI i3), some (pA a4), z5] [] h c s :=
  H

set_option maxRecDepth 100000 in
theorem v_L_urgency_0 (a0 : Nat) (i1 : Int) (i2 : Int) (a3 : Nat) (z4 : Option PV) (h : PH) (c s : Nat) (H : hk h a0 = 7 ∧ (c + 24 ≤ mc ∧ s + 1700 ≤ ms) ∧ call m_X6_urgency [pA a0, pI i1, pI i2] h (fun x1 h1 =>
 InR x1 ∧ hk h1 a3 = 23 ∧ (0 ≤ (0 : Int) ∧ (0 : Int) < (hl h1 a3 : Int)) ∧ ∀ h2, h2 = hsi h1 a3 (Int.toNat (0 : Int)) x1 →
 Q 0 h2) (fun e h1 => (e = 0 →
 Q 1 h1) ∧
(e ≠ 0 →
 (e = 2 →
 Q 2 h1) ∧
(e ≠ 2 →
 X e h1)))) : wpc k_L_urgency [(0, 10, 0, 15, 4), (0, 10, 2, 19, 4)] call mc ms fr Q X [] K 400 (pto 0 k_L_urgency) [some (pA a0), some (pI i1), some (pI i2), some (pA a3), z4] [] h c s :=
  H

set_option maxRecDepth 100000 in
theorem v_L_tiredness_0 (a0 : Nat) (i1 : Int) (i2 : Int) (a3 : Nat) (z4 : Option PV) (h : PH) (c s : Nat) (H : hk h a0 = 7 ∧ (c + 24 ≤ mc ∧ s + 1700 ≤ ms) ∧ call m_X6_tiredness [pA a0, pI i1, pI i2] h (fun x1 h1 =>
 InR x1 ∧ hk h1 a3 = 23 ∧ (0 ≤ (0 : Int) ∧ (0 : Int) < (hl h1 a3 : Int)) ∧ ∀ h2, h2 = hsi h1 a3 (Int.toNat (0 : Int)) x1 →
 Q 0 h2) (fun e h1 => (e = 0 →
 Q 1 h1) ∧
(e ≠ 0 →
 (e = 2 →
 Q 2 h1) ∧
(e ≠ 2 →
 X e h1)))) : wpc k_L_tiredness [(0, 10, 0, 15, 4), (0, 10, 2, 19, 4)] call mc ms fr Q X [] K 400 (pto 0 k_L_tiredness) [some (pA a0), some (pI i1), some (pI i2), some (pA a3), z4] [] h c s :=
  H

set_option maxRecDepth 100000 in
theorem v_L_queue_0 (a0 : Nat) (i1 : Int) (i2 : Int) (i3 : Int) (a4 : Nat) (z5 : Option PV) (h : PH) (c s : Nat) (H : hk h a0 = 7 ∧ (c + 24 ≤ mc ∧ s + 1700 ≤ ms) ∧ call m_X6_queue [pA a0, pI i1, pI i2, pI i3] h (fun x1 h1 =>
 InR x1 ∧ hk h1 a4 = 23 ∧ (0 ≤ (0 : Int) ∧ (0 : Int) < (hl h1 a4 : Int)) ∧ ∀ h2, h2 = hsi h1 a4 (Int.toNat (0 : Int)) x1 →
 Q 0 h2) (fun e h1 => (e = 0 →
 Q 1 h1) ∧
(e ≠ 0 →
 (e = 2 →
 Q 2 h1) ∧
(e ≠ 2 →
 (e = 1 →
 Q 3 h1) ∧
(e ≠ 1 →
 X e h1))))) : wpc k_L_queue [(0, 12, 0, 17, 5), (0, 12, 2, 21, 5), (0, 12, 1, 25, 5)] call mc ms fr Q X [] K 400 (pto 0 k_L_queue) [some (pA a0), some (pI i1), some (pI i2), some (pI i3), some (pA a4), z5] [] h c s :=
  H

set_option maxRecDepth 100000 in
theorem v_L_running_0 (a0 : Nat) (i1 : Int) (i2 : Int) (i3 : Int) (a4 : Nat) (z5 : Option PV) (h : PH) (c s : Nat) (H : hk h a0 = 7 ∧ (c + 24 ≤ mc ∧ s + 1700 ≤ ms) ∧ call m_X6_running [pA a0, pI i1, pI i2, pI i3] h (fun x1 h1 =>
 InR x1 ∧ hk h1 a4 = 23 ∧ (0 ≤ (0 : Int) ∧ (0 : Int) < (hl h1 a4 : Int)) ∧ ∀ h2, h2 = hsi h1 a4 (Int.toNat (0 : Int)) x1 →
 Q 0 h2) (fun e h1 => (e = 0 →
 Q 1 h1) ∧
(e ≠ 0 →
 (e = 2 →
 Q 2 h1) ∧
(e ≠ 2 →
 (e = 1 →
 Q 3 h1) ∧
(e ≠ 1 →
 X e h1))))) : wpc k_L_running [(0, 12, 0, 17, 5), (0, 12, 2, 21, 5), (0, 12, 1, 25, 5)] call mc ms fr Q X [] K 400 (pto 0 k_L_running) [some (pA a0), some (pI i1), some (pI i2), some (pI i3), some (pA a4), z5] [] h c s :=
  H

set_option maxRecDepth 100000 in
theorem v_L_end_0 (a0 : Nat) (i1 : Int) (i2 : Int) (a3 : Nat) (z4 : Option PV) (h : PH) (c s : Nat) (H : hk h a0 = 7 ∧ (c + 24 ≤ mc ∧ s + 1700 ≤ ms) ∧ call m_X6_end [pA a0, pI i1, pI i2] h (fun x1 h1 =>
 InR x1 ∧ hk h1 a3 = 23 ∧ (0 ≤ (0 : Int) ∧ (0 : Int) < (hl h1 a3 : Int)) ∧ ∀ h2, h2 = hsi h1 a3 (Int.toNat (0 : Int)) x1 →
 Q 0 h2) (fun e h1 => (e = 0 →
 Q 1 h1) ∧
(e ≠ 0 →
 (e = 2 →
 Q 2 h1) ∧
(e ≠ 2 →
 (e = 1 →
 Q 3 h1) ∧
(e ≠ 1 →
 X e h1))))) : wpc k_L_end [(0, 10, 0, 15, 4), (0, 10, 2, 19, 4), (0, 10, 1, 23, 4)] call mc ms fr Q X [] K 400 (pto 0 k_L_end) [some (pA a0), some (pI i1), some (pI i2), some (pA a3), z4] [] h c s :=
  H

set_option maxRecDepth 100000 in
theorem v_L_whereIs_0 (a0 : Nat) (i1 : Int) (a2 : Nat) (z3 : Option PV) (h : PH) (c s : Nat) (H : hk h a0 = 7 ∧ (c + 24 ≤ mc ∧ s + 1700 ≤ ms) ∧ call m_X6_whereIs [pA a0, pI i1] h (fun x1 h1 =>
 InR x1 ∧ hk h1 a2 = 23 ∧ (0 ≤ (0 : Int) ∧ (0 : Int) < (hl h1 a2 : Int)) ∧ ∀ h2, h2 = hsi h1 a2 (Int.toNat (0 : Int)) x1 →
 Q 0 h2) (fun e h1 => (e = 0 →
 Q 1 h1) ∧
(e ≠ 0 →
 (e = 2 →
 Q 2 h1) ∧
(e ≠ 2 →
 X e h1)))) : wpc k_L_whereIs [(0, 9, 0, 13, 3), (0, 9, 2, 16, 3)] call mc ms fr Q X [] K 400 (pto 0 k_L_whereIs) [some (pA a0), some (pI i1), some (pA a2), z3] [] h c s :=
  H

set_option maxRecDepth 100000 in
theorem v_L_next_0 (a0 : Nat) (i1 : Int) (a2 : Nat) (z3 : Option PV) (h : PH) (c s : Nat) (H : hk h a0 = 7 ∧ (c + 24 ≤ mc ∧ s + 1700 ≤ ms) ∧ call m_X6_next [pA a0, pI i1] h (fun x1 h1 =>
 InR x1 ∧ hk h1 a2 = 23 ∧ (0 ≤ (0 : Int) ∧ (0 : Int) < (hl h1 a2 : Int)) ∧ ∀ h2, h2 = hsi h1 a2 (Int.toNat (0 : Int)) x1 →
 Q 0 h2) (fun e h1 => (e = 0 →
 Q 1 h1) ∧
(e ≠ 0 →
 (e = 2 →
 Q 2 h1) ∧
(e ≠ 2 →
 X e h1)))) : wpc k_L_next [(0, 9, 0, 13, 3), (0, 9, 2, 16, 3)] call mc ms fr Q X [] K 400 (pto 0 k_L_next) [some (pA a0), some (pI i1), some (pA a2), z3] [] h c s :=
  H

set_option maxRecDepth 100000 in
theorem v_L_busiest_0 (a0 : Nat) (a1 : Nat) (z2 : Option PV) (h : PH) (c s : Nat) (H : hk h a0 = 7 ∧ (c + 24 ≤ mc ∧ s + 1700 ≤ ms) ∧ call m_X6_busiest [pA a0] h (fun x1 h1 =>
 InR x1 ∧ hk h1 a1 = 23 ∧ (0 ≤ (0 : Int) ∧ (0 : Int) < (hl h1 a1 : Int)) ∧ ∀ h2, h2 = hsi h1 a1 (Int.toNat (0 : Int)) x1 →
 Q 0 h2) (fun e h1 => (e = 0 →
 Q 1 h1) ∧
(e ≠ 0 →
 X e h1))) : wpc k_L_busiest [(0, 8, 0, 12, 2)] call mc ms fr Q X [] K 400 (pto 0 k_L_busiest) [some (pA a0), some (pA a1), z2] [] h c s :=
  H

set_option maxRecDepth 100000 in
theorem v_L_tiredest_0 (a0 : Nat) (i1 : Int) (a2 : Nat) (z3 : Option PV) (h : PH) (c s : Nat) (H : hk h a0 = 7 ∧ (c + 24 ≤ mc ∧ s + 1700 ≤ ms) ∧ call m_X6_tiredest [pA a0, pI i1] h (fun x1 h1 =>
 InR x1 ∧ hk h1 a2 = 23 ∧ (0 ≤ (0 : Int) ∧ (0 : Int) < (hl h1 a2 : Int)) ∧ ∀ h2, h2 = hsi h1 a2 (Int.toNat (0 : Int)) x1 →
 Q 0 h2) (fun e h1 => (e = 0 →
 Q 1 h1) ∧
(e ≠ 0 →
 (e = 2 →
 Q 2 h1) ∧
(e ≠ 2 →
 X e h1)))) : wpc k_L_tiredest [(0, 9, 0, 13, 3), (0, 9, 2, 16, 3)] call mc ms fr Q X [] K 400 (pto 0 k_L_tiredest) [some (pA a0), some (pI i1), some (pA a2), z3] [] h c s :=
  H

set_option maxRecDepth 100000 in
theorem v_L_oldest_0 (a0 : Nat) (a1 : Nat) (z2 : Option PV) (h : PH) (c s : Nat) (H : hk h a0 = 7 ∧ (c + 24 ≤ mc ∧ s + 1700 ≤ ms) ∧ call m_X6_oldest [pA a0] h (fun x1 h1 =>
 InR x1 ∧ hk h1 a1 = 23 ∧ (0 ≤ (0 : Int) ∧ (0 : Int) < (hl h1 a1 : Int)) ∧ ∀ h2, h2 = hsi h1 a1 (Int.toNat (0 : Int)) x1 →
 Q 0 h2) (fun e h1 => (e = 0 →
 Q 1 h1) ∧
(e ≠ 0 →
 X e h1))) : wpc k_L_oldest [(0, 8, 0, 12, 2)] call mc ms fr Q X [] K 400 (pto 0 k_L_oldest) [some (pA a0), some (pA a1), z2] [] h c s :=
  H

set_option maxRecDepth 100000 in
theorem v_L_loser_0 (a0 : Nat) (i1 : Int) (i2 : Int) (a3 : Nat) (z4 : Option PV) (h : PH) (c s : Nat) (H : hk h a0 = 7 ∧ (c + 24 ≤ mc ∧ s + 1700 ≤ ms) ∧ call m_X6_loser [pA a0, pI i1, pI i2] h (fun x1 h1 =>
 InR x1 ∧ hk h1 a3 = 23 ∧ (0 ≤ (0 : Int) ∧ (0 : Int) < (hl h1 a3 : Int)) ∧ ∀ h2, h2 = hsi h1 a3 (Int.toNat (0 : Int)) x1 →
 Q 0 h2) (fun e h1 => (e = 0 →
 Q 1 h1) ∧
(e ≠ 0 →
 (e = 2 →
 Q 2 h1) ∧
(e ≠ 2 →
 X e h1)))) : wpc k_L_loser [(0, 10, 0, 15, 4), (0, 10, 2, 19, 4)] call mc ms fr Q X [] K 400 (pto 0 k_L_loser) [some (pA a0), some (pI i1), some (pI i2), some (pA a3), z4] [] h c s :=
  H

set_option maxRecDepth 100000 in
theorem v_L_raisers_0 (a0 : Nat) (i1 : Int) (a2 : Nat) (z3 : Option PV) (h : PH) (c s : Nat) (H : hk h a0 = 7 ∧ (c + 24 ≤ mc ∧ s + 1700 ≤ ms) ∧ call m_X6_raisers [pA a0, pI i1] h (fun x1 h1 =>
 InR x1 ∧ hk h1 a2 = 23 ∧ (0 ≤ (0 : Int) ∧ (0 : Int) < (hl h1 a2 : Int)) ∧ ∀ h2, h2 = hsi h1 a2 (Int.toNat (0 : Int)) x1 →
 Q 0 h2) (fun e h1 => (e = 0 →
 Q 1 h1) ∧
(e ≠ 0 →
 (e = 2 →
 Q 2 h1) ∧
(e ≠ 2 →
 X e h1)))) : wpc k_L_raisers [(0, 9, 0, 13, 3), (0, 9, 2, 16, 3)] call mc ms fr Q X [] K 400 (pto 0 k_L_raisers) [some (pA a0), some (pI i1), some (pA a2), z3] [] h c s :=
  H

set_option maxRecDepth 100000 in
theorem v_L_idleIn_0 (a0 : Nat) (i1 : Int) (a2 : Nat) (z3 : Option PV) (h : PH) (c s : Nat) (H : hk h a0 = 7 ∧ (c + 24 ≤ mc ∧ s + 1700 ≤ ms) ∧ call m_X6_idleIn [pA a0, pI i1] h (fun x1 h1 =>
 InR x1 ∧ hk h1 a2 = 23 ∧ (0 ≤ (0 : Int) ∧ (0 : Int) < (hl h1 a2 : Int)) ∧ ∀ h2, h2 = hsi h1 a2 (Int.toNat (0 : Int)) x1 →
 Q 0 h2) (fun e h1 => (e = 0 →
 Q 1 h1) ∧
(e ≠ 0 →
 (e = 2 →
 Q 2 h1) ∧
(e ≠ 2 →
 X e h1)))) : wpc k_L_idleIn [(0, 9, 0, 13, 3), (0, 9, 2, 16, 3)] call mc ms fr Q X [] K 400 (pto 0 k_L_idleIn) [some (pA a0), some (pI i1), some (pA a2), z3] [] h c s :=
  H

set_option maxRecDepth 100000 in
theorem v_L_calmIn_0 (a0 : Nat) (a1 : Nat) (z2 : Option PV) (h : PH) (c s : Nat) (H : hk h a0 = 7 ∧ (c + 24 ≤ mc ∧ s + 1700 ≤ ms) ∧ call m_X6_calmIn [pA a0] h (fun x1 h1 =>
 InR x1 ∧ hk h1 a1 = 23 ∧ (0 ≤ (0 : Int) ∧ (0 : Int) < (hl h1 a1 : Int)) ∧ ∀ h2, h2 = hsi h1 a1 (Int.toNat (0 : Int)) x1 →
 Q 0 h2) (fun e h1 => (e = 0 →
 Q 1 h1) ∧
(e ≠ 0 →
 X e h1))) : wpc k_L_calmIn [(0, 8, 0, 12, 2)] call mc ms fr Q X [] K 400 (pto 0 k_L_calmIn) [some (pA a0), some (pA a1), z2] [] h c s :=
  H

set_option maxRecDepth 100000 in
theorem v_L_endIn_0 (a0 : Nat) (i1 : Int) (a2 : Nat) (z3 : Option PV) (h : PH) (c s : Nat) (H : hk h a0 = 7 ∧ (c + 24 ≤ mc ∧ s + 1700 ≤ ms) ∧ call m_X6_endIn [pA a0, pI i1] h (fun x1 h1 =>
 InR x1 ∧ hk h1 a2 = 23 ∧ (0 ≤ (0 : Int) ∧ (0 : Int) < (hl h1 a2 : Int)) ∧ ∀ h2, h2 = hsi h1 a2 (Int.toNat (0 : Int)) x1 →
 Q 0 h2) (fun e h1 => (e = 0 →
 Q 1 h1) ∧
(e ≠ 0 →
 (e = 2 →
 Q 2 h1) ∧
(e ≠ 2 →
 X e h1)))) : wpc k_L_endIn [(0, 9, 0, 13, 3), (0, 9, 2, 16, 3)] call mc ms fr Q X [] K 400 (pto 0 k_L_endIn) [some (pA a0), some (pI i1), some (pA a2), z3] [] h c s :=
  H

set_option maxRecDepth 100000 in
theorem v_L_endOf_0 (a0 : Nat) (i1 : Int) (a2 : Nat) (z3 : Option PV) (h : PH) (c s : Nat) (H : hk h a0 = 7 ∧ (c + 24 ≤ mc ∧ s + 1700 ≤ ms) ∧ call m_X6_endOf [pA a0, pI i1] h (fun x1 h1 =>
 InR x1 ∧ hk h1 a2 = 23 ∧ (0 ≤ (0 : Int) ∧ (0 : Int) < (hl h1 a2 : Int)) ∧ ∀ h2, h2 = hsi h1 a2 (Int.toNat (0 : Int)) x1 →
 Q 0 h2) (fun e h1 => (e = 0 →
 Q 1 h1) ∧
(e ≠ 0 →
 (e = 2 →
 Q 2 h1) ∧
(e ≠ 2 →
 X e h1)))) : wpc k_L_endOf [(0, 9, 0, 13, 3), (0, 9, 2, 16, 3)] call mc ms fr Q X [] K 400 (pto 0 k_L_endOf) [some (pA a0), some (pI i1), some (pA a2), z3] [] h c s :=
  H

set_option maxRecDepth 100000 in
theorem v_L_endsIn_0 (a0 : Nat) (i1 : Int) (i2 : Int) (a3 : Nat) (z4 : Option PV) (h : PH) (c s : Nat) (H : hk h a0 = 7 ∧ (c + 24 ≤ mc ∧ s + 1700 ≤ ms) ∧ call m_X6_endsIn [pA a0, pI i1, pI i2] h (fun x1 h1 =>
 InR x1 ∧ hk h1 a3 = 23 ∧ (0 ≤ (0 : Int) ∧ (0 : Int) < (hl h1 a3 : Int)) ∧ ∀ h2, h2 = hsi h1 a3 (Int.toNat (0 : Int)) x1 →
 Q 0 h2) (fun e h1 => (e = 0 →
 Q 1 h1) ∧
(e ≠ 0 →
 (e = 1 →
 Q 2 h1) ∧
(e ≠ 1 →
 X e h1)))) : wpc k_L_endsIn [(0, 10, 0, 15, 4), (0, 10, 1, 19, 4)] call mc ms fr Q X [] K 400 (pto 0 k_L_endsIn) [some (pA a0), some (pI i1), some (pI i2), some (pA a3), z4] [] h c s :=
  H

set_option maxRecDepth 100000 in
theorem v_L_urgencyIn_0 (a0 : Nat) (i1 : Int) (i2 : Int) (i3 : Int) (a4 : Nat) (z5 : Option PV) (h : PH) (c s : Nat) (H : hk h a0 = 7 ∧ (c + 24 ≤ mc ∧ s + 1700 ≤ ms) ∧ call m_X6_urgencyIn [pA a0, pI i1, pI i2, pI i3] h (fun x1 h1 =>
 InR x1 ∧ hk h1 a4 = 23 ∧ (0 ≤ (0 : Int) ∧ (0 : Int) < (hl h1 a4 : Int)) ∧ ∀ h2, h2 = hsi h1 a4 (Int.toNat (0 : Int)) x1 →
 Q 0 h2) (fun e h1 => (e = 0 →
 Q 1 h1) ∧
(e ≠ 0 →
 (e = 2 →
 Q 2 h1) ∧
(e ≠ 2 →
 (e = 1 →
 Q 3 h1) ∧
(e ≠ 1 →
 X e h1))))) : wpc k_L_urgencyIn [(0, 12, 0, 17, 5), (0, 12, 2, 21, 5), (0, 12, 1, 25, 5)] call mc ms fr Q X [] K 400 (pto 0 k_L_urgencyIn) [some (pA a0), some (pI i1), some (pI i2), some (pI i3), some (pA a4), z5] [] h c s :=
  H

set_option maxRecDepth 100000 in
theorem v_L_sentIn_0 (a0 : Nat) (i1 : Int) (a2 : Nat) (z3 : Option PV) (h : PH) (c s : Nat) (H : hk h a0 = 7 ∧ (c + 24 ≤ mc ∧ s + 1700 ≤ ms) ∧ call m_X6_sentIn [pA a0, pI i1] h (fun x1 h1 =>
 InR x1 ∧ hk h1 a2 = 23 ∧ (0 ≤ (0 : Int) ∧ (0 : Int) < (hl h1 a2 : Int)) ∧ ∀ h2, h2 = hsi h1 a2 (Int.toNat (0 : Int)) x1 →
 Q 0 h2) (fun e h1 => (e = 0 →
 Q 1 h1) ∧
(e ≠ 0 →
 (e = 1 →
 Q 2 h1) ∧
(e ≠ 1 →
 X e h1)))) : wpc k_L_sentIn [(0, 9, 0, 13, 3), (0, 9, 1, 16, 3)] call mc ms fr Q X [] K 400 (pto 0 k_L_sentIn) [some (pA a0), some (pI i1), some (pA a2), z3] [] h c s :=
  H

set_option maxRecDepth 100000 in
theorem v_L_bestMask_0 (a0 : Nat) (i1 : Int) (a2 : Nat) (z3 : Option PV) (h : PH) (c s : Nat) (H : hk h a0 = 7 ∧ (c + 24 ≤ mc ∧ s + 1700 ≤ ms) ∧ call m_X6_bestMask [pA a0, pI i1] h (fun x1 h1 =>
 InR x1 ∧ hk h1 a2 = 23 ∧ (0 ≤ (0 : Int) ∧ (0 : Int) < (hl h1 a2 : Int)) ∧ ∀ h2, h2 = hsi h1 a2 (Int.toNat (0 : Int)) x1 →
 Q 0 h2) (fun e h1 => (e = 0 →
 Q 1 h1) ∧
(e ≠ 0 →
 (e = 2 →
 Q 2 h1) ∧
(e ≠ 2 →
 X e h1)))) : wpc k_L_bestMask [(0, 9, 0, 13, 3), (0, 9, 2, 16, 3)] call mc ms fr Q X [] K 400 (pto 0 k_L_bestMask) [some (pA a0), some (pI i1), some (pA a2), z3] [] h c s :=
  H

set_option maxRecDepth 100000 in
theorem v_L_writeQueue_0 (a0 : Nat) (i1 : Int) (a2 : Nat) (z3 : Option PV) (h : PH) (c s : Nat) (H : hk h a0 = 7 ∧ (c + 24 ≤ mc ∧ s + 1700 ≤ ms) ∧ call m_X6_writeQueue [pA a0, pI i1] h (fun x1 h1 =>
 InR x1 ∧ hk h1 a2 = 23 ∧ (0 ≤ (0 : Int) ∧ (0 : Int) < (hl h1 a2 : Int)) ∧ ∀ h2, h2 = hsi h1 a2 (Int.toNat (0 : Int)) x1 →
 Q 0 h2) (fun e h1 => (e = 0 →
 Q 1 h1) ∧
(e ≠ 0 →
 (e = 2 →
 Q 2 h1) ∧
(e ≠ 2 →
 X e h1)))) : wpc k_L_writeQueue [(0, 9, 0, 13, 3), (0, 9, 2, 16, 3)] call mc ms fr Q X [] K 400 (pto 0 k_L_writeQueue) [some (pA a0), some (pI i1), some (pA a2), z3] [] h c s :=
  H

set_option maxRecDepth 100000 in
theorem v_L_writeStack_0 (a0 : Nat) (i1 : Int) (a2 : Nat) (z3 : Option PV) (h : PH) (c s : Nat) (H : hk h a0 = 7 ∧ (c + 24 ≤ mc ∧ s + 1700 ≤ ms) ∧ call m_X6_writeStack [pA a0, pI i1] h (fun x1 h1 =>
 InR x1 ∧ hk h1 a2 = 23 ∧ (0 ≤ (0 : Int) ∧ (0 : Int) < (hl h1 a2 : Int)) ∧ ∀ h2, h2 = hsi h1 a2 (Int.toNat (0 : Int)) x1 →
 Q 0 h2) (fun e h1 => (e = 0 →
 Q 1 h1) ∧
(e ≠ 0 →
 (e = 2 →
 Q 2 h1) ∧
(e ≠ 2 →
 X e h1)))) : wpc k_L_writeStack [(0, 9, 0, 13, 3), (0, 9, 2, 16, 3)] call mc ms fr Q X [] K 400 (pto 0 k_L_writeStack) [some (pA a0), some (pI i1), some (pA a2), z3] [] h c s :=
  H

set_option maxRecDepth 100000 in
theorem v_L_writeEnds_0 (a0 : Nat) (a1 : Nat) (z2 : Option PV) (h : PH) (c s : Nat) (H : hk h a0 = 7 ∧ (c + 24 ≤ mc ∧ s + 1700 ≤ ms) ∧ call m_X6_writeEnds [pA a0] h (fun x1 h1 =>
 InR x1 ∧ hk h1 a1 = 23 ∧ (0 ≤ (0 : Int) ∧ (0 : Int) < (hl h1 a1 : Int)) ∧ ∀ h2, h2 = hsi h1 a1 (Int.toNat (0 : Int)) x1 →
 Q 0 h2) (fun e h1 => (e = 0 →
 Q 1 h1) ∧
(e ≠ 0 →
 X e h1))) : wpc k_L_writeEnds [(0, 8, 0, 12, 2)] call mc ms fr Q X [] K 400 (pto 0 k_L_writeEnds) [some (pA a0), some (pA a1), z2] [] h c s :=
  H

set_option maxRecDepth 100000 in
theorem v_L_textByte_0 (a0 : Nat) (i1 : Int) (a2 : Nat) (z3 : Option PV) (h : PH) (c s : Nat) (H : hk h a0 = 7 ∧ (c + 24 ≤ mc ∧ s + 1700 ≤ ms) ∧ call m_X6_textByte [pA a0, pI i1] h (fun x1 h1 =>
 InR x1 ∧ hk h1 a2 = 23 ∧ (0 ≤ (0 : Int) ∧ (0 : Int) < (hl h1 a2 : Int)) ∧ ∀ h2, h2 = hsi h1 a2 (Int.toNat (0 : Int)) x1 →
 Q 0 h2) (fun e h1 => (e = 2 →
 Q 1 h1) ∧
(e ≠ 2 →
 X e h1))) : wpc k_L_textByte [(0, 9, 2, 13, 3)] call mc ms fr Q X [] K 400 (pto 0 k_L_textByte) [some (pA a0), some (pI i1), some (pA a2), z3] [] h c s :=
  H

set_option maxRecDepth 100000 in
theorem v_L_tick_0 (a0 : Nat) (i1 : Int) (a2 : Nat) (z3 : Option PV) (h : PH) (c s : Nat) (H : hk h a0 = 7 ∧ (c + 24 ≤ mc ∧ s + 1700 ≤ ms) ∧ call m_X6_tick [pA a0, pI i1] h (fun x1 h1 =>
 InR x1 ∧ hk h1 a2 = 23 ∧ (0 ≤ (0 : Int) ∧ (0 : Int) < (hl h1 a2 : Int)) ∧ ∀ h2, h2 = hsi h1 a2 (Int.toNat (0 : Int)) x1 →
 Q 0 h2) (fun e h1 => (e = 0 →
 Q 1 h1) ∧
(e ≠ 0 →
 (e = 1 →
 Q 2 h1) ∧
(e ≠ 1 →
 X e h1)))) : wpc k_L_tick [(0, 9, 0, 13, 3), (0, 9, 1, 16, 3)] call mc ms fr Q X [] K 400 (pto 0 k_L_tick) [some (pA a0), some (pI i1), some (pA a2), z3] [] h c s :=
  H

set_option maxRecDepth 100000 in
theorem v_L_send_0 (a0 : Nat) (i1 : Int) (i2 : Int) (i3 : Int) (a4 : Nat) (z5 : Option PV) (h : PH) (c s : Nat) (H : hk h a0 = 7 ∧ (c + 24 ≤ mc ∧ s + 1700 ≤ ms) ∧ call m_X6_send [pA a0, pI i1, pI i2, pI i3] h (fun x1 h1 =>
 InR x1 ∧ hk h1 a4 = 23 ∧ (0 ≤ (0 : Int) ∧ (0 : Int) < (hl h1 a4 : Int)) ∧ ∀ h2, h2 = hsi h1 a4 (Int.toNat (0 : Int)) x1 →
 Q 0 h2) (fun e h1 => (e = 0 →
 Q 1 h1) ∧
(e ≠ 0 →
 (e = 2 →
 Q 2 h1) ∧
(e ≠ 2 →
 (e = 1 →
 Q 3 h1) ∧
(e ≠ 1 →
 X e h1))))) : wpc k_L_send [(0, 12, 0, 17, 5), (0, 12, 2, 21, 5), (0, 12, 1, 25, 5)] call mc ms fr Q X [] K 400 (pto 0 k_L_send) [some (pA a0), some (pI i1), some (pI i2), some (pI i3), some (pA a4), z5] [] h c s :=
  H

set_option maxRecDepth 100000 in
theorem v_L_mask_0 (a0 : Nat) (i1 : Int) (i2 : Int) (i3 : Int) (a4 : Nat) (z5 : Option PV) (h : PH) (c s : Nat) (H : hk h a0 = 7 ∧ (c + 24 ≤ mc ∧ s + 1700 ≤ ms) ∧ call m_X6_mask [pA a0, pI i1, pI i2, pI i3] h (fun x1 h1 =>
 InR x1 ∧ (x1 = 0 →
 hk h1 a4 = 23 ∧ (0 ≤ (0 : Int) ∧ (0 : Int) < (hl h1 a4 : Int)) ∧ ∀ h2, h2 = hsi h1 a4 (Int.toNat (0 : Int)) 0 →
 Q 0 h2) ∧
(x1 ≠ 0 →
 hk h1 a4 = 23 ∧ (0 ≤ (0 : Int) ∧ (0 : Int) < (hl h1 a4 : Int)) ∧ ∀ h3, h3 = hsi h1 a4 (Int.toNat (0 : Int)) 1 →
 Q 0 h3)) (fun e h1 => (e = 0 →
 Q 1 h1) ∧
(e ≠ 0 →
 (e = 2 →
 Q 2 h1) ∧
(e ≠ 2 →
 X e h1)))) : wpc k_L_mask [(0, 19, 0, 24, 5), (0, 19, 2, 28, 5)] call mc ms fr Q X [] K 400 (pto 0 k_L_mask) [some (pA a0), some (pI i1), some (pI i2), some (pI i3), some (pA a4), z5] [] h c s :=
  H

set_option maxRecDepth 100000 in
theorem v_L_drop_0 (a0 : Nat) (i1 : Int) (a2 : Nat) (z3 : Option PV) (h : PH) (c s : Nat) (H : hk h a0 = 7 ∧ (c + 24 ≤ mc ∧ s + 1700 ≤ ms) ∧ call m_X6_drop [pA a0, pI i1] h (fun x1 h1 =>
 InR x1 ∧ hk h1 a2 = 23 ∧ (0 ≤ (0 : Int) ∧ (0 : Int) < (hl h1 a2 : Int)) ∧ ∀ h2, h2 = hsi h1 a2 (Int.toNat (0 : Int)) x1 →
 Q 0 h2) (fun e h1 => (e = 0 →
 Q 1 h1) ∧
(e ≠ 0 →
 (e = 2 →
 Q 2 h1) ∧
(e ≠ 2 →
 X e h1)))) : wpc k_L_drop [(0, 9, 0, 13, 3), (0, 9, 2, 16, 3)] call mc ms fr Q X [] K 400 (pto 0 k_L_drop) [some (pA a0), some (pI i1), some (pA a2), z3] [] h c s :=
  H

set_option maxRecDepth 100000 in
theorem v_L_clear_0 (a0 : Nat) (i1 : Int) (a2 : Nat) (z3 : Option PV) (h : PH) (c s : Nat) (H : hk h a0 = 7 ∧ (c + 24 ≤ mc ∧ s + 1700 ≤ ms) ∧ call m_X6_clear [pA a0, pI i1] h (fun x1 h1 =>
 InR x1 ∧ hk h1 a2 = 23 ∧ (0 ≤ (0 : Int) ∧ (0 : Int) < (hl h1 a2 : Int)) ∧ ∀ h2, h2 = hsi h1 a2 (Int.toNat (0 : Int)) x1 →
 Q 0 h2) (fun e h1 => (e = 0 →
 Q 1 h1) ∧
(e ≠ 0 →
 (e = 2 →
 Q 2 h1) ∧
(e ≠ 2 →
 X e h1)))) : wpc k_L_clear [(0, 9, 0, 13, 3), (0, 9, 2, 16, 3)] call mc ms fr Q X [] K 400 (pto 0 k_L_clear) [some (pA a0), some (pI i1), some (pA a2), z3] [] h c s :=
  H

set_option maxRecDepth 100000 in
theorem v_L_refresh_0 (a0 : Nat) (i1 : Int) (a2 : Nat) (z3 : Option PV) (h : PH) (c s : Nat) (H : hk h a0 = 7 ∧ (c + 24 ≤ mc ∧ s + 1700 ≤ ms) ∧ call m_X6_refresh [pA a0, pI i1] h (fun x1 h1 =>
 InR x1 ∧ hk h1 a2 = 23 ∧ (0 ≤ (0 : Int) ∧ (0 : Int) < (hl h1 a2 : Int)) ∧ ∀ h2, h2 = hsi h1 a2 (Int.toNat (0 : Int)) x1 →
 Q 0 h2) (fun e h1 => (e = 0 →
 Q 1 h1) ∧
(e ≠ 0 →
 (e = 2 →
 Q 2 h1) ∧
(e ≠ 2 →
 X e h1)))) : wpc k_L_refresh [(0, 9, 0, 13, 3), (0, 9, 2, 16, 3)] call mc ms fr Q X [] K 400 (pto 0 k_L_refresh) [some (pA a0), some (pI i1), some (pA a2), z3] [] h c s :=
  H

set_option maxRecDepth 100000 in
theorem v_L_setKind_0 (a0 : Nat) (i1 : Int) (i2 : Int) (i3 : Int) (a4 : Nat) (z5 : Option PV) (h : PH) (c s : Nat) (H : hk h a0 = 7 ∧ (c + 24 ≤ mc ∧ s + 1700 ≤ ms) ∧ call m_X6_setKind [pA a0, pI i1, pI i2, pI i3] h (fun x1 h1 =>
 InR x1 ∧ hk h1 a4 = 23 ∧ (0 ≤ (0 : Int) ∧ (0 : Int) < (hl h1 a4 : Int)) ∧ ∀ h2, h2 = hsi h1 a4 (Int.toNat (0 : Int)) x1 →
 Q 0 h2) (fun e h1 => (e = 0 →
 Q 1 h1) ∧
(e ≠ 0 →
 (e = 2 →
 Q 2 h1) ∧
(e ≠ 2 →
 (e = 1 →
 Q 3 h1) ∧
(e ≠ 1 →
 X e h1))))) : wpc k_L_setKind [(0, 12, 0, 17, 5), (0, 12, 2, 21, 5), (0, 12, 1, 25, 5)] call mc ms fr Q X [] K 400 (pto 0 k_L_setKind) [some (pA a0), some (pI i1), some (pI i2), some (pI i3), some (pA a4), z5] [] h c s :=
  H

set_option maxRecDepth 100000 in
theorem v_L_set_0 (a0 : Nat) (i1 : Int) (i2 : Int) (a3 : Nat) (z4 : Option PV) (h : PH) (c s : Nat) (H : hk h a0 = 7 ∧ (c + 24 ≤ mc ∧ s + 1700 ≤ ms) ∧ call m_X6_set [pA a0, pI i1, pI i2] h (fun x1 h1 =>
 InR x1 ∧ hk h1 a3 = 23 ∧ (0 ≤ (0 : Int) ∧ (0 : Int) < (hl h1 a3 : Int)) ∧ ∀ h2, h2 = hsi h1 a3 (Int.toNat (0 : Int)) x1 →
 Q 0 h2) (fun e h1 => (e = 0 →
 Q 1 h1) ∧
(e ≠ 0 →
 (e = 1 →
 Q 2 h1) ∧
(e ≠ 1 →
 X e h1)))) : wpc k_L_set [(0, 10, 0, 15, 4), (0, 10, 1, 19, 4)] call mc ms fr Q X [] K 400 (pto 0 k_L_set) [some (pA a0), some (pI i1), some (pI i2), some (pA a3), z4] [] h c s :=
  H
end LWV
theorem L_count {d : Nat} {h : PH} {D : Nat → Int → Int} {s : Int → Int} {N N' w : Int} {Q : Int → PH → Prop} {X : Nat → PH → Prop} (C : CP h D s N) (G : CD D s N) (o : OS h) (hvw : InR w) (hN8 : N ≤ 99999999) (h5 : D 0 1 ≠ 0 → 0 ≤ D 0 5 ∧ D 0 5 ≤ 48) (hN : N ≤ N') (H : ∀ (kr : Int) h', kr = ck (tL D) w 0 (13) 2 → (ck (tL D) w 0 (13) 2 = 0 → hi h' 139 0 = cntv D s w ∧ InR (cntv D s w)) → CG h h' → CP h' D s N' → Q kr h') : RUN GQ (d + 8) m_L_count [pA 64, pI w, pA 139] h Q X := by
  obtain ⟨B, A, B2, A2, nx, EP, E, C⟩ := C
  obtain ⟨cpl, cft, ce, csp, cbf, cou, cps, css, crr, ckn, cn1⟩ := id C
  obtain ⟨t1, t2, ⟨EP2, t3⟩, E2, t4⟩ := csp
  obtain ⟨EO, oO, o1, o2⟩ := cou
  rw [e_L_count]
  refine WP.of (RUN.mono GQ _) (cuts := []) (n := 400) (v_L_count_0 _ _ _ _ _ _ _ ?_)
  refine ⟨cft.k, ⟨by decide, by decide⟩, S_X6_count cft G.W hvw (fun x9 t v => ?_) (fun e9 n9' c9 l9 => ?_)⟩
  · have u9 : CF h h ∧ CP h D s N' := ⟨CF.refl h, B, A, B2, A2, nx, EP, E, C.sc (fun r _ _ => SC.refl h r) (Nat.le_refl _) hN⟩
    have iv : InR (cntv D s w) := V_count G hN8 h5 t
    exact W_out o u9.1 (by rw [v]; exact iv) (fun h2 g2 i2 k2 => H 0 h2 t.symm (fun _ => ⟨i2.trans v, iv⟩) g2 (k2 _ _ _ u9.2))
  · have u9 := C.up (n' := n9') l9 hN
    refine ⟨fun c1 => H 1 _ (by omega) (fun z => absurd z (by omega)) u9.1.cg u9.2, fun c1 => ?_⟩
    refine ⟨fun c1 => H 2 _ (by omega) (fun z => absurd z (by omega)) u9.1.cg u9.2, fun c1 => ?_⟩
    exfalso
    omega
theorem L_setting {d : Nat} {h : PH} {D : Nat → Int → Int} {s : Int → Int} {N N' w : Int} {Q : Int → PH → Prop} {X : Nat → PH → Prop} (C : CP h D s N) (G : CD D s N) (o : OS h) (hvw : InR w) (hN : N ≤ N') (H : ∀ (kr : Int) h', kr = ck (tL D) w 0 (3) 2 → (ck (tL D) w 0 (3) 2 = 0 → hi h' 139 0 = (if w = 3 then D 0 2 else s (10 + w)) ∧ InR ((if w = 3 then D 0 2 else s (10 + w)))) → CG h h' → CP h' D s N' → Q kr h') : RUN GQ (d + 8) m_L_setting [pA 64, pI w, pA 139] h Q X := by
  obtain ⟨B, A, B2, A2, nx, EP, E, C⟩ := C
  obtain ⟨cpl, cft, ce, csp, cbf, cou, cps, css, crr, ckn, cn1⟩ := id C
  obtain ⟨t1, t2, ⟨EP2, t3⟩, E2, t4⟩ := csp
  obtain ⟨EO, oO, o1, o2⟩ := cou
  rw [e_L_setting]
  refine WP.of (RUN.mono GQ _) (cuts := []) (n := 400) (v_L_setting_0 _ _ _ _ _ _ _ ?_)
  refine ⟨cft.k, ⟨by decide, by decide⟩, S_X6_setting cft G.W hvw (fun x9 t v => ?_) (fun e9 n9' c9 l9 => ?_)⟩
  · have u9 : CF h h ∧ CP h D s N' := ⟨CF.refl h, B, A, B2, A2, nx, EP, E, C.sc (fun r _ _ => SC.refl h r) (Nat.le_refl _) hN⟩
    have iv : InR ((if w = 3 then D 0 2 else s (10 + w))) := V_setting G t
    exact W_out o u9.1 (by rw [v]; exact iv) (fun h2 g2 i2 k2 => H 0 h2 t.symm (fun _ => ⟨i2.trans v, iv⟩) g2 (k2 _ _ _ u9.2))
  · have u9 := C.up (n' := n9') l9 hN
    refine ⟨fun c1 => H 1 _ (by omega) (fun z => absurd z (by omega)) u9.1.cg u9.2, fun c1 => ?_⟩
    refine ⟨fun c1 => H 2 _ (by omega) (fun z => absurd z (by omega)) u9.1.cg u9.2, fun c1 => ?_⟩
    exfalso
    omega
theorem L_kind {d : Nat} {h : PH} {D : Nat → Int → Int} {s : Int → Int} {N N' k w : Int} {Q : Int → PH → Prop} {X : Nat → PH → Prop} (C : CP h D s N) (G : CD D s N) (o : OS h) (hvk : InR k) (hvw : InR w) (hN : N ≤ N') (H : ∀ (kr : Int) h', kr = ck (ck (tL D) k 0 (D 0 3 - 1) 2) w 0 (2) 3 → (ck (ck (tL D) k 0 (D 0 3 - 1) 2) w 0 (2) 3 = 0 → hi h' 139 0 = kn s k w ∧ InR (kn s k w)) → CG h h' → CP h' D s N' → Q kr h') : RUN GQ (d + 9) m_L_kind [pA 64, pI k, pI w, pA 139] h Q X := by
  obtain ⟨B, A, B2, A2, nx, EP, E, C⟩ := C
  obtain ⟨cpl, cft, ce, csp, cbf, cou, cps, css, crr, ckn, cn1⟩ := id C
  obtain ⟨t1, t2, ⟨EP2, t3⟩, E2, t4⟩ := csp
  obtain ⟨EO, oO, o1, o2⟩ := cou
  rw [e_L_kind]
  refine WP.of (RUN.mono GQ _) (cuts := []) (n := 400) (v_L_kind_0 _ _ _ _ _ _ _ _ ?_)
  refine ⟨cft.k, ⟨by decide, by decide⟩, S_X6_kind cft G.W hvk hvw (fun x9 t v => ?_) (fun e9 n9' c9 l9 => ?_)⟩
  · have u9 : CF h h ∧ CP h D s N' := ⟨CF.refl h, B, A, B2, A2, nx, EP, E, C.sc (fun r _ _ => SC.refl h r) (Nat.le_refl _) hN⟩
    have iv : InR (kn s k w) := V_kind G t
    exact W_out o u9.1 (by rw [v]; exact iv) (fun h2 g2 i2 k2 => H 0 h2 t.symm (fun _ => ⟨i2.trans v, iv⟩) g2 (k2 _ _ _ u9.2))
  · have u9 := C.up (n' := n9') l9 hN
    refine ⟨fun c1 => H 1 _ (by omega) (fun z => absurd z (by omega)) u9.1.cg u9.2, fun c1 => ?_⟩
    refine ⟨fun c1 => H 2 _ (by omega) (fun z => absurd z (by omega)) u9.1.cg u9.2, fun c1 => ?_⟩
    refine ⟨fun c1 => H 3 _ (by omega) (fun z => absurd z (by omega)) u9.1.cg u9.2, fun c1 => ?_⟩
    exfalso
    omega
theorem L_program {d : Nat} {h : PH} {D : Nat → Int → Int} {s : Int → Int} {N N' p w : Int} {Q : Int → PH → Prop} {X : Nat → PH → Prop} (C : CP h D s N) (G : CD D s N) (o : OS h) (hvp : InR p) (hvw : InR w) (hN8 : N ≤ 99999999) (hN : N ≤ N') (H : ∀ (kr : Int) h', kr = ck (ck (tL D) p 0 (D 0 4 - 1) 2) w 0 (7) 3 → (ck (ck (tL D) p 0 (D 0 4 - 1) 2) w 0 (7) 3 = 0 → hi h' 139 0 = prgv D s p w ∧ InR (prgv D s p w)) → CG h h' → CP h' D s N' → Q kr h') : RUN GQ (d + 9) m_L_program [pA 64, pI p, pI w, pA 139] h Q X := by
  obtain ⟨B, A, B2, A2, nx, EP, E, C⟩ := C
  obtain ⟨cpl, cft, ce, csp, cbf, cou, cps, css, crr, ckn, cn1⟩ := id C
  obtain ⟨t1, t2, ⟨EP2, t3⟩, E2, t4⟩ := csp
  obtain ⟨EO, oO, o1, o2⟩ := cou
  rw [e_L_program]
  refine WP.of (RUN.mono GQ _) (cuts := []) (n := 400) (v_L_program_0 _ _ _ _ _ _ _ _ ?_)
  refine ⟨cft.k, ⟨by decide, by decide⟩, S_X6_program cft G.W hvp hvw (fun x9 t v => ?_) (fun e9 n9' c9 l9 => ?_)⟩
  · have u9 : CF h h ∧ CP h D s N' := ⟨CF.refl h, B, A, B2, A2, nx, EP, E, C.sc (fun r _ _ => SC.refl h r) (Nat.le_refl _) hN⟩
    have iv : InR (prgv D s p w) := V_program G hN8 t
    exact W_out o u9.1 (by rw [v]; exact iv) (fun h2 g2 i2 k2 => H 0 h2 t.symm (fun _ => ⟨i2.trans v, iv⟩) g2 (k2 _ _ _ u9.2))
  · have u9 := C.up (n' := n9') l9 hN
    refine ⟨fun c1 => H 1 _ (by omega) (fun z => absurd z (by omega)) u9.1.cg u9.2, fun c1 => ?_⟩
    refine ⟨fun c1 => H 2 _ (by omega) (fun z => absurd z (by omega)) u9.1.cg u9.2, fun c1 => ?_⟩
    refine ⟨fun c1 => H 3 _ (by omega) (fun z => absurd z (by omega)) u9.1.cg u9.2, fun c1 => ?_⟩
    exfalso
    omega
theorem L_handler {d : Nat} {h : PH} {D : Nat → Int → Int} {s : Int → Int} {N N' p k w : Int} {Q : Int → PH → Prop} {X : Nat → PH → Prop} (C : CP h D s N) (G : CD D s N) (o : OS h) (hvp : InR p) (hvk : InR k) (hvw : InR w) (hN : N ≤ N') (H : ∀ (kr : Int) h', kr = ck (ck (ck (tL D) p 0 (D 0 4 - 1) 2) k 0 (D 0 3 - 1) 2) w 0 (49) 3 → (ck (ck (ck (tL D) p 0 (D 0 4 - 1) 2) k 0 (D 0 3 - 1) 2) w 0 (49) 3 = 0 → hi h' 139 0 = hdlv D p k w ∧ InR (hdlv D p k w)) → CG h h' → CP h' D s N' → Q kr h') : RUN GQ (d + 9) m_L_handler [pA 64, pI p, pI k, pI w, pA 139] h Q X := by
  obtain ⟨B, A, B2, A2, nx, EP, E, C⟩ := C
  obtain ⟨cpl, cft, ce, csp, cbf, cou, cps, css, crr, ckn, cn1⟩ := id C
  obtain ⟨t1, t2, ⟨EP2, t3⟩, E2, t4⟩ := csp
  obtain ⟨EO, oO, o1, o2⟩ := cou
  rw [e_L_handler]
  refine WP.of (RUN.mono GQ _) (cuts := []) (n := 400) (v_L_handler_0 _ _ _ _ _ _ _ _ _ ?_)
  refine ⟨cft.k, ⟨by decide, by decide⟩, S_X6_handler cft G.W hvp hvk hvw (fun x9 t v => ?_) (fun e9 n9' c9 l9 => ?_)⟩
  · have u9 : CF h h ∧ CP h D s N' := ⟨CF.refl h, B, A, B2, A2, nx, EP, E, C.sc (fun r _ _ => SC.refl h r) (Nat.le_refl _) hN⟩
    have iv : InR (hdlv D p k w) := V_handler G t
    exact W_out o u9.1 (by rw [v]; exact iv) (fun h2 g2 i2 k2 => H 0 h2 t.symm (fun _ => ⟨i2.trans v, iv⟩) g2 (k2 _ _ _ u9.2))
  · have u9 := C.up (n' := n9') l9 hN
    refine ⟨fun c1 => H 1 _ (by omega) (fun z => absurd z (by omega)) u9.1.cg u9.2, fun c1 => ?_⟩
    refine ⟨fun c1 => H 2 _ (by omega) (fun z => absurd z (by omega)) u9.1.cg u9.2, fun c1 => ?_⟩
    refine ⟨fun c1 => H 3 _ (by omega) (fun z => absurd z (by omega)) u9.1.cg u9.2, fun c1 => ?_⟩
    exfalso
    omega
theorem L_urgency {d : Nat} {h : PH} {D : Nat → Int → Int} {s : Int → Int} {N N' p k : Int} {Q : Int → PH → Prop} {X : Nat → PH → Prop} (C : CP h D s N) (G : CD D s N) (o : OS h) (hvp : InR p) (hvk : InR k) (hN : N ≤ N') (H : ∀ (kr : Int) h', kr = ck (ck (tL D) p 0 (D 0 4 - 1) 2) k 0 (D 0 3 - 1) 2 → (ck (ck (tL D) p 0 (D 0 4 - 1) 2) k 0 (D 0 3 - 1) 2 = 0 → hi h' 139 0 = ur s p k ∧ InR (ur s p k)) → CG h h' → CP h' D s N' → Q kr h') : RUN GQ (d + 9) m_L_urgency [pA 64, pI p, pI k, pA 139] h Q X := by
  obtain ⟨B, A, B2, A2, nx, EP, E, C⟩ := C
  obtain ⟨cpl, cft, ce, csp, cbf, cou, cps, css, crr, ckn, cn1⟩ := id C
  obtain ⟨t1, t2, ⟨EP2, t3⟩, E2, t4⟩ := csp
  obtain ⟨EO, oO, o1, o2⟩ := cou
  rw [e_L_urgency]
  refine WP.of (RUN.mono GQ _) (cuts := []) (n := 400) (v_L_urgency_0 _ _ _ _ _ _ _ _ ?_)
  refine ⟨cft.k, ⟨by decide, by decide⟩, S_X6_urgency cft G.W hvp hvk (fun x9 t v => ?_) (fun e9 n9' c9 l9 => ?_)⟩
  · have u9 : CF h h ∧ CP h D s N' := ⟨CF.refl h, B, A, B2, A2, nx, EP, E, C.sc (fun r _ _ => SC.refl h r) (Nat.le_refl _) hN⟩
    have iv : InR (ur s p k) := V_urgency G t
    exact W_out o u9.1 (by rw [v]; exact iv) (fun h2 g2 i2 k2 => H 0 h2 t.symm (fun _ => ⟨i2.trans v, iv⟩) g2 (k2 _ _ _ u9.2))
  · have u9 := C.up (n' := n9') l9 hN
    refine ⟨fun c1 => H 1 _ (by omega) (fun z => absurd z (by omega)) u9.1.cg u9.2, fun c1 => ?_⟩
    refine ⟨fun c1 => H 2 _ (by omega) (fun z => absurd z (by omega)) u9.1.cg u9.2, fun c1 => ?_⟩
    exfalso
    omega
theorem L_tiredness {d : Nat} {h : PH} {D : Nat → Int → Int} {s : Int → Int} {N N' p k : Int} {Q : Int → PH → Prop} {X : Nat → PH → Prop} (C : CP h D s N) (G : CD D s N) (o : OS h) (hvp : InR p) (hvk : InR k) (hN : N ≤ N') (H : ∀ (kr : Int) h', kr = ck (ck (tL D) p 0 (D 0 4 - 1) 2) k 0 (D 0 3 - 1) 2 → (ck (ck (tL D) p 0 (D 0 4 - 1) 2) k 0 (D 0 3 - 1) 2 = 0 → hi h' 139 0 = td s p k ∧ InR (td s p k)) → CG h h' → CP h' D s N' → Q kr h') : RUN GQ (d + 9) m_L_tiredness [pA 64, pI p, pI k, pA 139] h Q X := by
  obtain ⟨B, A, B2, A2, nx, EP, E, C⟩ := C
  obtain ⟨cpl, cft, ce, csp, cbf, cou, cps, css, crr, ckn, cn1⟩ := id C
  obtain ⟨t1, t2, ⟨EP2, t3⟩, E2, t4⟩ := csp
  obtain ⟨EO, oO, o1, o2⟩ := cou
  rw [e_L_tiredness]
  refine WP.of (RUN.mono GQ _) (cuts := []) (n := 400) (v_L_tiredness_0 _ _ _ _ _ _ _ _ ?_)
  refine ⟨cft.k, ⟨by decide, by decide⟩, S_X6_tiredness cft G.W hvp hvk (fun x9 t v => ?_) (fun e9 n9' c9 l9 => ?_)⟩
  · have u9 : CF h h ∧ CP h D s N' := ⟨CF.refl h, B, A, B2, A2, nx, EP, E, C.sc (fun r _ _ => SC.refl h r) (Nat.le_refl _) hN⟩
    have iv : InR (td s p k) := V_tiredness G t
    exact W_out o u9.1 (by rw [v]; exact iv) (fun h2 g2 i2 k2 => H 0 h2 t.symm (fun _ => ⟨i2.trans v, iv⟩) g2 (k2 _ _ _ u9.2))
  · have u9 := C.up (n' := n9') l9 hN
    refine ⟨fun c1 => H 1 _ (by omega) (fun z => absurd z (by omega)) u9.1.cg u9.2, fun c1 => ?_⟩
    refine ⟨fun c1 => H 2 _ (by omega) (fun z => absurd z (by omega)) u9.1.cg u9.2, fun c1 => ?_⟩
    exfalso
    omega
theorem L_queue {d : Nat} {h : PH} {D : Nat → Int → Int} {s : Int → Int} {N N' p i w : Int} {Q : Int → PH → Prop} {X : Nat → PH → Prop} (C : CP h D s N) (G : CD D s N) (o : OS h) (hvp : InR p) (hvi : InR i) (hvw : InR w) (hN8 : N ≤ 99999999) (hN : N ≤ N') (H : ∀ (kr : Int) h', kr = ck (ck (ck (tL D) p 0 (D 0 4 - 1) 2) i 0 (s (115 + p) - 1) 2) w 0 (4) 3 → (ck (ck (ck (tL D) p 0 (D 0 4 - 1) 2) i 0 (s (115 + p) - 1) 2) w 0 (4) 3 = 0 → hi h' 139 0 = qv s p (plc s p i) w ∧ InR (qv s p (plc s p i) w)) → CG h h' → CP h' D s N' → Q kr h') : RUN GQ (d + 9) m_L_queue [pA 64, pI p, pI i, pI w, pA 139] h Q X := by
  obtain ⟨B, A, B2, A2, nx, EP, E, C⟩ := C
  obtain ⟨cpl, cft, ce, csp, cbf, cou, cps, css, crr, ckn, cn1⟩ := id C
  obtain ⟨t1, t2, ⟨EP2, t3⟩, E2, t4⟩ := csp
  obtain ⟨EO, oO, o1, o2⟩ := cou
  rw [e_L_queue]
  refine WP.of (RUN.mono GQ _) (cuts := []) (n := 400) (v_L_queue_0 _ _ _ _ _ _ _ _ _ ?_)
  refine ⟨cft.k, ⟨by decide, by decide⟩, S_X6_queue cft G.W hvp hvi hvw (fun x9 t v => ?_) (fun e9 n9' c9 l9 => ?_)⟩
  · have u9 : CF h h ∧ CP h D s N' := ⟨CF.refl h, B, A, B2, A2, nx, EP, E, C.sc (fun r _ _ => SC.refl h r) (Nat.le_refl _) hN⟩
    have iv : InR (qv s p (plc s p i) w) := V_queue G hN8 t
    exact W_out o u9.1 (by rw [v]; exact iv) (fun h2 g2 i2 k2 => H 0 h2 t.symm (fun _ => ⟨i2.trans v, iv⟩) g2 (k2 _ _ _ u9.2))
  · have u9 := C.up (n' := n9') l9 hN
    refine ⟨fun c1 => H 1 _ (by omega) (fun z => absurd z (by omega)) u9.1.cg u9.2, fun c1 => ?_⟩
    refine ⟨fun c1 => H 2 _ (by omega) (fun z => absurd z (by omega)) u9.1.cg u9.2, fun c1 => ?_⟩
    refine ⟨fun c1 => H 3 _ (by omega) (fun z => absurd z (by omega)) u9.1.cg u9.2, fun c1 => ?_⟩
    exfalso
    omega
theorem L_running {d : Nat} {h : PH} {D : Nat → Int → Int} {s : Int → Int} {N N' p i w : Int} {Q : Int → PH → Prop} {X : Nat → PH → Prop} (C : CP h D s N) (G : CD D s N) (o : OS h) (hvp : InR p) (hvi : InR i) (hvw : InR w) (hN8 : N ≤ 99999999) (hN : N ≤ N') (H : ∀ (kr : Int) h', kr = ck (ck (ck (tL D) p 0 (D 0 4 - 1) 2) i 0 (s (511 + p) - 1) 2) w 0 (4) 3 → (ck (ck (ck (tL D) p 0 (D 0 4 - 1) 2) i 0 (s (511 + p) - 1) 2) w 0 (4) 3 = 0 → hi h' 139 0 = sv s p (s (511 + p) - 1 - i) w ∧ InR (sv s p (s (511 + p) - 1 - i) w)) → CG h h' → CP h' D s N' → Q kr h') : RUN GQ (d + 9) m_L_running [pA 64, pI p, pI i, pI w, pA 139] h Q X := by
  obtain ⟨B, A, B2, A2, nx, EP, E, C⟩ := C
  obtain ⟨cpl, cft, ce, csp, cbf, cou, cps, css, crr, ckn, cn1⟩ := id C
  obtain ⟨t1, t2, ⟨EP2, t3⟩, E2, t4⟩ := csp
  obtain ⟨EO, oO, o1, o2⟩ := cou
  rw [e_L_running]
  refine WP.of (RUN.mono GQ _) (cuts := []) (n := 400) (v_L_running_0 _ _ _ _ _ _ _ _ _ ?_)
  refine ⟨cft.k, ⟨by decide, by decide⟩, S_X6_running cft G.W ckn.2.1 hvp hvi hvw (fun x9 t v => ?_) (fun e9 n9' c9 l9 => ?_)⟩
  · have u9 : CF h h ∧ CP h D s N' := ⟨CF.refl h, B, A, B2, A2, nx, EP, E, C.sc (fun r _ _ => SC.refl h r) (Nat.le_refl _) hN⟩
    have iv : InR (sv s p (s (511 + p) - 1 - i) w) := V_running G hN8 t
    exact W_out o u9.1 (by rw [v]; exact iv) (fun h2 g2 i2 k2 => H 0 h2 t.symm (fun _ => ⟨i2.trans v, iv⟩) g2 (k2 _ _ _ u9.2))
  · have u9 := C.up (n' := n9') l9 hN
    refine ⟨fun c1 => H 1 _ (by omega) (fun z => absurd z (by omega)) u9.1.cg u9.2, fun c1 => ?_⟩
    refine ⟨fun c1 => H 2 _ (by omega) (fun z => absurd z (by omega)) u9.1.cg u9.2, fun c1 => ?_⟩
    refine ⟨fun c1 => H 3 _ (by omega) (fun z => absurd z (by omega)) u9.1.cg u9.2, fun c1 => ?_⟩
    exfalso
    omega
theorem L_end {d : Nat} {h : PH} {D : Nat → Int → Int} {s : Int → Int} {N N' i w : Int} {Q : Int → PH → Prop} {X : Nat → PH → Prop} (C : CP h D s N) (G : CD D s N) (o : OS h) (hvi : InR i) (hvw : InR w) (hN8 : N ≤ 99999999) (hN : N ≤ N') (H : ∀ (kr : Int) h', kr = ck (ck (tL D) i 0 (tld s - 1) 2) w 0 (4) 3 → (ck (ck (tL D) i 0 (tld s - 1) 2) w 0 (4) 3 = 0 → hi h' 139 0 = rv s (Int.tmod (s 2 - 1 - i) 40) w ∧ InR (rv s (Int.tmod (s 2 - 1 - i) 40) w)) → CG h h' → CP h' D s N' → Q kr h') : RUN GQ (d + 8) m_L_end [pA 64, pI i, pI w, pA 139] h Q X := by
  obtain ⟨B, A, B2, A2, nx, EP, E, C⟩ := C
  obtain ⟨cpl, cft, ce, csp, cbf, cou, cps, css, crr, ckn, cn1⟩ := id C
  obtain ⟨t1, t2, ⟨EP2, t3⟩, E2, t4⟩ := csp
  obtain ⟨EO, oO, o1, o2⟩ := cou
  rw [e_L_end]
  refine WP.of (RUN.mono GQ _) (cuts := []) (n := 400) (v_L_end_0 _ _ _ _ _ _ _ _ ?_)
  refine ⟨cft.k, ⟨by decide, by decide⟩, S_X6_end cft G.W hvi hvw (fun x9 t v => ?_) (fun e9 n9' c9 l9 => ?_)⟩
  · have u9 : CF h h ∧ CP h D s N' := ⟨CF.refl h, B, A, B2, A2, nx, EP, E, C.sc (fun r _ _ => SC.refl h r) (Nat.le_refl _) hN⟩
    have iv : InR (rv s (Int.tmod (s 2 - 1 - i) 40) w) := V_end G hN8 t
    exact W_out o u9.1 (by rw [v]; exact iv) (fun h2 g2 i2 k2 => H 0 h2 t.symm (fun _ => ⟨i2.trans v, iv⟩) g2 (k2 _ _ _ u9.2))
  · have u9 := C.up (n' := n9') l9 hN
    refine ⟨fun c1 => H 1 _ (by omega) (fun z => absurd z (by omega)) u9.1.cg u9.2, fun c1 => ?_⟩
    refine ⟨fun c1 => H 2 _ (by omega) (fun z => absurd z (by omega)) u9.1.cg u9.2, fun c1 => ?_⟩
    refine ⟨fun c1 => H 3 _ (by omega) (fun z => absurd z (by omega)) u9.1.cg u9.2, fun c1 => ?_⟩
    exfalso
    omega
theorem L_whereIs {d : Nat} {h : PH} {D : Nat → Int → Int} {s : Int → Int} {N N' g : Int} {Q : Int → PH → Prop} {X : Nat → PH → Prop} (C : CP h D s N) (G : CD D s N) (o : OS h) (hvg : InR g) (hN : N ≤ N') (H : ∀ (kr : Int) h', kr = ck (tL D) g 0 (s 1 - 1) 2 → (ck (tL D) g 0 (s 1 - 1) 2 = 0 → hi h' 139 0 = wis D s g ∧ InR (wis D s g)) → CG h h' → CP h' D s N' → Q kr h') : RUN GQ (d + 9) m_L_whereIs [pA 64, pI g, pA 139] h Q X := by
  obtain ⟨B, A, B2, A2, nx, EP, E, C⟩ := C
  obtain ⟨cpl, cft, ce, csp, cbf, cou, cps, css, crr, ckn, cn1⟩ := id C
  obtain ⟨t1, t2, ⟨EP2, t3⟩, E2, t4⟩ := csp
  obtain ⟨EO, oO, o1, o2⟩ := cou
  rw [e_L_whereIs]
  refine WP.of (RUN.mono GQ _) (cuts := []) (n := 400) (v_L_whereIs_0 _ _ _ _ _ _ _ ?_)
  refine ⟨cft.k, ⟨by decide, by decide⟩, S_X6_whereIs cft G.W hvg (fun x9 t v => ?_) (fun e9 n9' c9 l9 => ?_)⟩
  · have u9 : CF h h ∧ CP h D s N' := ⟨CF.refl h, B, A, B2, A2, nx, EP, E, C.sc (fun r _ _ => SC.refl h r) (Nat.le_refl _) hN⟩
    have iv : InR (wis D s g) := V_whereIs G t
    exact W_out o u9.1 (by rw [v]; exact iv) (fun h2 g2 i2 k2 => H 0 h2 t.symm (fun _ => ⟨i2.trans v, iv⟩) g2 (k2 _ _ _ u9.2))
  · have u9 := C.up (n' := n9') l9 hN
    refine ⟨fun c1 => H 1 _ (by omega) (fun z => absurd z (by omega)) u9.1.cg u9.2, fun c1 => ?_⟩
    refine ⟨fun c1 => H 2 _ (by omega) (fun z => absurd z (by omega)) u9.1.cg u9.2, fun c1 => ?_⟩
    exfalso
    omega
theorem L_next {d : Nat} {h : PH} {D : Nat → Int → Int} {s : Int → Int} {N N' p : Int} {Q : Int → PH → Prop} {X : Nat → PH → Prop} (C : CP h D s N) (G : CD D s N) (o : OS h) (hvp : InR p) (hN8 : N ≤ 99999999) (hN : N ≤ N') (H : ∀ (kr : Int) h', kr = ck (tL D) p 0 (D 0 4 - 1) 2 → (ck (tL D) p 0 (D 0 4 - 1) 2 = 0 → hi h' 139 0 = nxv s p ∧ InR (nxv s p)) → CG h h' → CP h' D s N' → Q kr h') : RUN GQ (d + 9) m_L_next [pA 64, pI p, pA 139] h Q X := by
  obtain ⟨B, A, B2, A2, nx, EP, E, C⟩ := C
  obtain ⟨cpl, cft, ce, csp, cbf, cou, cps, css, crr, ckn, cn1⟩ := id C
  obtain ⟨t1, t2, ⟨EP2, t3⟩, E2, t4⟩ := csp
  obtain ⟨EO, oO, o1, o2⟩ := cou
  rw [e_L_next]
  refine WP.of (RUN.mono GQ _) (cuts := []) (n := 400) (v_L_next_0 _ _ _ _ _ _ _ ?_)
  refine ⟨cft.k, ⟨by decide, by decide⟩, S_X6_next cft G.W hvp (fun x9 t v => ?_) (fun e9 n9' c9 l9 => ?_)⟩
  · have u9 : CF h h ∧ CP h D s N' := ⟨CF.refl h, B, A, B2, A2, nx, EP, E, C.sc (fun r _ _ => SC.refl h r) (Nat.le_refl _) hN⟩
    have iv : InR (nxv s p) := V_next G hN8 t
    exact W_out o u9.1 (by rw [v]; exact iv) (fun h2 g2 i2 k2 => H 0 h2 t.symm (fun _ => ⟨i2.trans v, iv⟩) g2 (k2 _ _ _ u9.2))
  · have u9 := C.up (n' := n9') l9 hN
    refine ⟨fun c1 => H 1 _ (by omega) (fun z => absurd z (by omega)) u9.1.cg u9.2, fun c1 => ?_⟩
    refine ⟨fun c1 => H 2 _ (by omega) (fun z => absurd z (by omega)) u9.1.cg u9.2, fun c1 => ?_⟩
    exfalso
    omega
theorem L_busiest {d : Nat} {h : PH} {D : Nat → Int → Int} {s : Int → Int} {N N' : Int} {Q : Int → PH → Prop} {X : Nat → PH → Prop} (C : CP h D s N) (G : CD D s N) (o : OS h) (hN : N ≤ N') (H : ∀ (kr : Int) h', kr = (tL D) → ((tL D) = 0 → hi h' 139 0 = bsl s (D 0 4).toNat 0 (-1) ∧ InR (bsl s (D 0 4).toNat 0 (-1))) → CG h h' → CP h' D s N' → Q kr h') : RUN GQ (d + 8) m_L_busiest [pA 64, pA 139] h Q X := by
  obtain ⟨B, A, B2, A2, nx, EP, E, C⟩ := C
  obtain ⟨cpl, cft, ce, csp, cbf, cou, cps, css, crr, ckn, cn1⟩ := id C
  obtain ⟨t1, t2, ⟨EP2, t3⟩, E2, t4⟩ := csp
  obtain ⟨EO, oO, o1, o2⟩ := cou
  rw [e_L_busiest]
  refine WP.of (RUN.mono GQ _) (cuts := []) (n := 400) (v_L_busiest_0 _ _ _ _ _ _ ?_)
  refine ⟨cft.k, ⟨by decide, by decide⟩, S_X6_busiest cft G.W (fun x9 t v => ?_) (fun e9 n9' c9 l9 => ?_)⟩
  · have u9 : CF h h ∧ CP h D s N' := ⟨CF.refl h, B, A, B2, A2, nx, EP, E, C.sc (fun r _ _ => SC.refl h r) (Nat.le_refl _) hN⟩
    have iv : InR (bsl s (D 0 4).toNat 0 (-1)) := V_busiest G t
    exact W_out o u9.1 (by rw [v]; exact iv) (fun h2 g2 i2 k2 => H 0 h2 t.symm (fun _ => ⟨i2.trans v, iv⟩) g2 (k2 _ _ _ u9.2))
  · have u9 := C.up (n' := n9') l9 hN
    refine ⟨fun c1 => H 1 _ (by omega) (fun z => absurd z (by omega)) u9.1.cg u9.2, fun c1 => ?_⟩
    exfalso
    omega
theorem L_tiredest {d : Nat} {h : PH} {D : Nat → Int → Int} {s : Int → Int} {N N' p : Int} {Q : Int → PH → Prop} {X : Nat → PH → Prop} (C : CP h D s N) (G : CD D s N) (o : OS h) (hvp : InR p) (hN : N ≤ N') (H : ∀ (kr : Int) h', kr = ck (tL D) p 0 (D 0 4 - 1) 2 → (ck (tL D) p 0 (D 0 4 - 1) 2 = 0 → hi h' 139 0 = trl s p (D 0 3).toNat 0 (-1) ∧ InR (trl s p (D 0 3).toNat 0 (-1))) → CG h h' → CP h' D s N' → Q kr h') : RUN GQ (d + 9) m_L_tiredest [pA 64, pI p, pA 139] h Q X := by
  obtain ⟨B, A, B2, A2, nx, EP, E, C⟩ := C
  obtain ⟨cpl, cft, ce, csp, cbf, cou, cps, css, crr, ckn, cn1⟩ := id C
  obtain ⟨t1, t2, ⟨EP2, t3⟩, E2, t4⟩ := csp
  obtain ⟨EO, oO, o1, o2⟩ := cou
  rw [e_L_tiredest]
  refine WP.of (RUN.mono GQ _) (cuts := []) (n := 400) (v_L_tiredest_0 _ _ _ _ _ _ _ ?_)
  refine ⟨cft.k, ⟨by decide, by decide⟩, S_X6_tiredest cft G.W hvp (fun x9 t v => ?_) (fun e9 n9' c9 l9 => ?_)⟩
  · have u9 : CF h h ∧ CP h D s N' := ⟨CF.refl h, B, A, B2, A2, nx, EP, E, C.sc (fun r _ _ => SC.refl h r) (Nat.le_refl _) hN⟩
    have iv : InR (trl s p (D 0 3).toNat 0 (-1)) := V_tiredest G t
    exact W_out o u9.1 (by rw [v]; exact iv) (fun h2 g2 i2 k2 => H 0 h2 t.symm (fun _ => ⟨i2.trans v, iv⟩) g2 (k2 _ _ _ u9.2))
  · have u9 := C.up (n' := n9') l9 hN
    refine ⟨fun c1 => H 1 _ (by omega) (fun z => absurd z (by omega)) u9.1.cg u9.2, fun c1 => ?_⟩
    refine ⟨fun c1 => H 2 _ (by omega) (fun z => absurd z (by omega)) u9.1.cg u9.2, fun c1 => ?_⟩
    exfalso
    omega
theorem L_oldest {d : Nat} {h : PH} {D : Nat → Int → Int} {s : Int → Int} {N N' : Int} {Q : Int → PH → Prop} {X : Nat → PH → Prop} (C : CP h D s N) (G : CD D s N) (o : OS h) (hN8 : N ≤ 99999999) (hN : N ≤ N') (H : ∀ (kr : Int) h', kr = (tL D) → ((tL D) = 0 → hi h' 139 0 = ool s (D 0 4).toNat 0 (-1) ∧ InR (ool s (D 0 4).toNat 0 (-1))) → CG h h' → CP h' D s N' → Q kr h') : RUN GQ (d + 8) m_L_oldest [pA 64, pA 139] h Q X := by
  obtain ⟨B, A, B2, A2, nx, EP, E, C⟩ := C
  obtain ⟨cpl, cft, ce, csp, cbf, cou, cps, css, crr, ckn, cn1⟩ := id C
  obtain ⟨t1, t2, ⟨EP2, t3⟩, E2, t4⟩ := csp
  obtain ⟨EO, oO, o1, o2⟩ := cou
  rw [e_L_oldest]
  refine WP.of (RUN.mono GQ _) (cuts := []) (n := 400) (v_L_oldest_0 _ _ _ _ _ _ ?_)
  refine ⟨cft.k, ⟨by decide, by decide⟩, S_X6_oldest cft G.W (fun x9 t v => ?_) (fun e9 n9' c9 l9 => ?_)⟩
  · have u9 : CF h h ∧ CP h D s N' := ⟨CF.refl h, B, A, B2, A2, nx, EP, E, C.sc (fun r _ _ => SC.refl h r) (Nat.le_refl _) hN⟩
    have iv : InR (ool s (D 0 4).toNat 0 (-1)) := V_oldest G hN8 t
    exact W_out o u9.1 (by rw [v]; exact iv) (fun h2 g2 i2 k2 => H 0 h2 t.symm (fun _ => ⟨i2.trans v, iv⟩) g2 (k2 _ _ _ u9.2))
  · have u9 := C.up (n' := n9') l9 hN
    refine ⟨fun c1 => H 1 _ (by omega) (fun z => absurd z (by omega)) u9.1.cg u9.2, fun c1 => ?_⟩
    exfalso
    omega
theorem L_loser {d : Nat} {h : PH} {D : Nat → Int → Int} {s : Int → Int} {N N' p k : Int} {Q : Int → PH → Prop} {X : Nat → PH → Prop} (C : CP h D s N) (G : CD D s N) (o : OS h) (hvp : InR p) (hvk : InR k) (hN8 : N ≤ 99999999) (hN : N ≤ N') (H : ∀ (kr : Int) h', kr = ck (ck (tL D) p 0 (D 0 4 - 1) 2) k 0 (D 0 3 - 1) 2 → (ck (ck (tL D) p 0 (D 0 4 - 1) 2) k 0 (D 0 3 - 1) 2 = 0 → hi h' 139 0 = losv D s p k ∧ InR (losv D s p k)) → CG h h' → CP h' D s N' → Q kr h') : RUN GQ (d + 9) m_L_loser [pA 64, pI p, pI k, pA 139] h Q X := by
  obtain ⟨B, A, B2, A2, nx, EP, E, C⟩ := C
  obtain ⟨cpl, cft, ce, csp, cbf, cou, cps, css, crr, ckn, cn1⟩ := id C
  obtain ⟨t1, t2, ⟨EP2, t3⟩, E2, t4⟩ := csp
  obtain ⟨EO, oO, o1, o2⟩ := cou
  rw [e_L_loser]
  refine WP.of (RUN.mono GQ _) (cuts := []) (n := 400) (v_L_loser_0 _ _ _ _ _ _ _ _ ?_)
  refine ⟨cft.k, ⟨by decide, by decide⟩, S_X6_loser cft G.W hvp hvk (fun x9 t v => ?_) (fun e9 n9' c9 l9 => ?_)⟩
  · have u9 : CF h h ∧ CP h D s N' := ⟨CF.refl h, B, A, B2, A2, nx, EP, E, C.sc (fun r _ _ => SC.refl h r) (Nat.le_refl _) hN⟩
    have iv : InR (losv D s p k) := V_loser G hN8 t
    exact W_out o u9.1 (by rw [v]; exact iv) (fun h2 g2 i2 k2 => H 0 h2 t.symm (fun _ => ⟨i2.trans v, iv⟩) g2 (k2 _ _ _ u9.2))
  · have u9 := C.up (n' := n9') l9 hN
    refine ⟨fun c1 => H 1 _ (by omega) (fun z => absurd z (by omega)) u9.1.cg u9.2, fun c1 => ?_⟩
    refine ⟨fun c1 => H 2 _ (by omega) (fun z => absurd z (by omega)) u9.1.cg u9.2, fun c1 => ?_⟩
    exfalso
    omega
theorem L_raisers {d : Nat} {h : PH} {D : Nat → Int → Int} {s : Int → Int} {N N' k : Int} {Q : Int → PH → Prop} {X : Nat → PH → Prop} (C : CP h D s N) (G : CD D s N) (o : OS h) (hvk : InR k) (hN : N ≤ N') (H : ∀ (kr : Int) h', kr = ck (tL D) k 0 (D 0 3 - 1) 2 → (ck (tL D) k 0 (D 0 3 - 1) 2 = 0 → hi h' 139 0 = rasl D k (D 0 4).toNat 0 0 ∧ InR (rasl D k (D 0 4).toNat 0 0)) → CG h h' → CP h' D s N' → Q kr h') : RUN GQ (d + 9) m_L_raisers [pA 64, pI k, pA 139] h Q X := by
  obtain ⟨B, A, B2, A2, nx, EP, E, C⟩ := C
  obtain ⟨cpl, cft, ce, csp, cbf, cou, cps, css, crr, ckn, cn1⟩ := id C
  obtain ⟨t1, t2, ⟨EP2, t3⟩, E2, t4⟩ := csp
  obtain ⟨EO, oO, o1, o2⟩ := cou
  rw [e_L_raisers]
  refine WP.of (RUN.mono GQ _) (cuts := []) (n := 400) (v_L_raisers_0 _ _ _ _ _ _ _ ?_)
  refine ⟨cft.k, ⟨by decide, by decide⟩, S_X6_raisers cft G.W hvk (fun x9 t v => ?_) (fun e9 n9' c9 l9 => ?_)⟩
  · have u9 : CF h h ∧ CP h D s N' := ⟨CF.refl h, B, A, B2, A2, nx, EP, E, C.sc (fun r _ _ => SC.refl h r) (Nat.le_refl _) hN⟩
    have iv : InR (rasl D k (D 0 4).toNat 0 0) := rasl_ir D _ _ _ _ (ir (by omega) (by omega))
    exact W_out o u9.1 (by rw [v]; exact iv) (fun h2 g2 i2 k2 => H 0 h2 t.symm (fun _ => ⟨i2.trans v, iv⟩) g2 (k2 _ _ _ u9.2))
  · have u9 := C.up (n' := n9') l9 hN
    refine ⟨fun c1 => H 1 _ (by omega) (fun z => absurd z (by omega)) u9.1.cg u9.2, fun c1 => ?_⟩
    refine ⟨fun c1 => H 2 _ (by omega) (fun z => absurd z (by omega)) u9.1.cg u9.2, fun c1 => ?_⟩
    exfalso
    omega
theorem L_idleIn {d : Nat} {h : PH} {D : Nat → Int → Int} {s : Int → Int} {N N' p : Int} {Q : Int → PH → Prop} {X : Nat → PH → Prop} (C : CP h D s N) (G : CD D s N) (o : OS h) (hvp : InR p) (hN : N ≤ N') (H : ∀ (kr : Int) h', kr = ck (tL D) p 0 (D 0 4 - 1) 2 → (ck (tL D) p 0 (D 0 4 - 1) 2 = 0 → hi h' 139 0 = til D p 200 0 s ∧ InR (til D p 200 0 s)) → CG h h' → CP h' D s N' → Q kr h') : RUN GQ (d + 9) m_L_idleIn [pA 64, pI p, pA 139] h Q X := by
  obtain ⟨B, A, B2, A2, nx, EP, E, C⟩ := C
  obtain ⟨cpl, cft, ce, csp, cbf, cou, cps, css, crr, ckn, cn1⟩ := id C
  obtain ⟨t1, t2, ⟨EP2, t3⟩, E2, t4⟩ := csp
  obtain ⟨EO, oO, o1, o2⟩ := cou
  rw [e_L_idleIn]
  refine WP.of (RUN.mono GQ _) (cuts := []) (n := 400) (v_L_idleIn_0 _ _ _ _ _ _ _ ?_)
  refine ⟨cft.k, ⟨by decide, by decide⟩, S_X6_idleIn cft G.W t2 cpl.dj t4.1 t4.2.1 t4.2.2 hvp (fun x9 h9 E9 t v m9 e69 e99 => ?_) (fun e9 n9' c9 l9 => ?_)⟩
  · have u9 := C.spare m9 e69 e99 hN
    have iv : InR (til D p 200 0 s) := V_til D s _
    exact W_out o u9.1 (by rw [v]; exact iv) (fun h2 g2 i2 k2 => H 0 h2 t.symm (fun _ => ⟨i2.trans v, iv⟩) g2 (k2 _ _ _ u9.2))
  · have u9 := C.up (n' := n9') l9 hN
    refine ⟨fun c1 => H 1 _ (by omega) (fun z => absurd z (by omega)) u9.1.cg u9.2, fun c1 => ?_⟩
    refine ⟨fun c1 => H 2 _ (by omega) (fun z => absurd z (by omega)) u9.1.cg u9.2, fun c1 => ?_⟩
    exfalso
    omega
theorem L_calmIn {d : Nat} {h : PH} {D : Nat → Int → Int} {s : Int → Int} {N N' : Int} {Q : Int → PH → Prop} {X : Nat → PH → Prop} (C : CP h D s N) (G : CD D s N) (o : OS h) (hN : N ≤ N') (H : ∀ (kr : Int) h', kr = tL D → (tL D = 0 → hi h' 139 0 = til D (-1) 200 0 s ∧ InR (til D (-1) 200 0 s)) → CG h h' → CP h' D s N' → Q kr h') : RUN GQ (d + 9) m_L_calmIn [pA 64, pA 139] h Q X := by
  obtain ⟨B, A, B2, A2, nx, EP, E, C⟩ := C
  obtain ⟨cpl, cft, ce, csp, cbf, cou, cps, css, crr, ckn, cn1⟩ := id C
  obtain ⟨t1, t2, ⟨EP2, t3⟩, E2, t4⟩ := csp
  obtain ⟨EO, oO, o1, o2⟩ := cou
  rw [e_L_calmIn]
  refine WP.of (RUN.mono GQ _) (cuts := []) (n := 400) (v_L_calmIn_0 _ _ _ _ _ _ ?_)
  refine ⟨cft.k, ⟨by decide, by decide⟩, S_X6_calmIn cft G.W t2 cpl.dj t4.1 t4.2.1 t4.2.2 (fun x9 h9 E9 t v m9 e69 e99 => ?_) (fun e9 n9' c9 l9 => ?_)⟩
  · have u9 := C.spare m9 e69 e99 hN
    have iv : InR (til D (-1) 200 0 s) := V_til D s _
    exact W_out o u9.1 (by rw [v]; exact iv) (fun h2 g2 i2 k2 => H 0 h2 t.symm (fun _ => ⟨i2.trans v, iv⟩) g2 (k2 _ _ _ u9.2))
  · have u9 := C.up (n' := n9') l9 hN
    refine ⟨fun c1 => H 1 _ (by omega) (fun z => absurd z (by omega)) u9.1.cg u9.2, fun c1 => ?_⟩
    exfalso
    omega
theorem L_endIn {d : Nat} {h : PH} {D : Nat → Int → Int} {s : Int → Int} {N N' g : Int} {Q : Int → PH → Prop} {X : Nat → PH → Prop} (C : CP h D s N) (G : CD D s N) (o : OS h) (hvg : InR g) (hN : N ≤ N') (H : ∀ (kr : Int) h', kr = ck (tL D) g 0 (s 1 - 1) 2 → (ck (tL D) g 0 (s 1 - 1) 2 = 0 → hi h' 139 0 = eiv D s g ∧ InR (eiv D s g)) → CG h h' → CP h' D s N' → Q kr h') : RUN GQ (d + 9) m_L_endIn [pA 64, pI g, pA 139] h Q X := by
  obtain ⟨B, A, B2, A2, nx, EP, E, C⟩ := C
  obtain ⟨cpl, cft, ce, csp, cbf, cou, cps, css, crr, ckn, cn1⟩ := id C
  obtain ⟨t1, t2, ⟨EP2, t3⟩, E2, t4⟩ := csp
  obtain ⟨EO, oO, o1, o2⟩ := cou
  rw [e_L_endIn]
  refine WP.of (RUN.mono GQ _) (cuts := []) (n := 400) (v_L_endIn_0 _ _ _ _ _ _ _ ?_)
  refine ⟨cft.k, ⟨by decide, by decide⟩, S_X6_endIn cft G.W t2 cpl.dj t4.1 t4.2.1 t4.2.2 hvg (fun x9 h9 E9 t v m9 e69 e99 => ?_) (fun e9 n9' c9 l9 => ?_)⟩
  · have u9 := C.spare m9 e69 e99 hN
    have iv : InR (eiv D s g) := (eiv_eov D s _).2
    exact W_out o u9.1 (by rw [v]; exact iv) (fun h2 g2 i2 k2 => H 0 h2 t.symm (fun _ => ⟨i2.trans v, iv⟩) g2 (k2 _ _ _ u9.2))
  · have u9 := C.up (n' := n9') l9 hN
    refine ⟨fun c1 => H 1 _ (by omega) (fun z => absurd z (by omega)) u9.1.cg u9.2, fun c1 => ?_⟩
    refine ⟨fun c1 => H 2 _ (by omega) (fun z => absurd z (by omega)) u9.1.cg u9.2, fun c1 => ?_⟩
    exfalso
    omega
theorem L_endOf {d : Nat} {h : PH} {D : Nat → Int → Int} {s : Int → Int} {N N' g : Int} {Q : Int → PH → Prop} {X : Nat → PH → Prop} (C : CP h D s N) (G : CD D s N) (o : OS h) (hvg : InR g) (hN : N ≤ N') (H : ∀ (kr : Int) h', kr = ck (tL D) g 0 (s 1 - 1) 2 → (ck (tL D) g 0 (s 1 - 1) 2 = 0 → hi h' 139 0 = eov D s g ∧ InR (eov D s g)) → CG h h' → CP h' D s N' → Q kr h') : RUN GQ (d + 9) m_L_endOf [pA 64, pI g, pA 139] h Q X := by
  obtain ⟨B, A, B2, A2, nx, EP, E, C⟩ := C
  obtain ⟨cpl, cft, ce, csp, cbf, cou, cps, css, crr, ckn, cn1⟩ := id C
  obtain ⟨t1, t2, ⟨EP2, t3⟩, E2, t4⟩ := csp
  obtain ⟨EO, oO, o1, o2⟩ := cou
  rw [e_L_endOf]
  refine WP.of (RUN.mono GQ _) (cuts := []) (n := 400) (v_L_endOf_0 _ _ _ _ _ _ _ ?_)
  refine ⟨cft.k, ⟨by decide, by decide⟩, S_X6_endOf cft G.W t2 cpl.dj t4.1 t4.2.1 t4.2.2 hvg (fun x9 h9 E9 t v m9 e69 e99 => ?_) (fun e9 n9' c9 l9 => ?_)⟩
  · have u9 := C.spare m9 e69 e99 hN
    have iv : InR (eov D s g) := eov_rng (G.u (tL_n (ck_t t))).1 (G.u (tL_n (ck_t t))).2.1 hvg
    exact W_out o u9.1 (by rw [v]; exact iv) (fun h2 g2 i2 k2 => H 0 h2 t.symm (fun _ => ⟨i2.trans v, iv⟩) g2 (k2 _ _ _ u9.2))
  · have u9 := C.up (n' := n9') l9 hN
    refine ⟨fun c1 => H 1 _ (by omega) (fun z => absurd z (by omega)) u9.1.cg u9.2, fun c1 => ?_⟩
    refine ⟨fun c1 => H 2 _ (by omega) (fun z => absurd z (by omega)) u9.1.cg u9.2, fun c1 => ?_⟩
    exfalso
    omega
theorem L_endsIn {d : Nat} {h : PH} {D : Nat → Int → Int} {s : Int → Int} {N N' u m : Int} {Q : Int → PH → Prop} {X : Nat → PH → Prop} (C : CP h D s N) (G : CD D s N) (o : OS h) (hvu : InR u) (hvm : InR m) (hN8 : N ≤ 99999999) (hN : N ≤ N') (H : ∀ (kr : Int) h', kr = ck (ck (tL D) u 0 (5) 2) m 0 (200) 2 → (ck (ck (tL D) u 0 (5) 2) m 0 (200) 2 = 0 → hi h' 139 0 = e_tks D m.toNat s (4 + u) - s (4 + u) ∧ InR (e_tks D m.toNat s (4 + u) - s (4 + u))) → CG h h' → CP h' D s N' → Q kr h') : RUN GQ (d + 9) m_L_endsIn [pA 64, pI u, pI m, pA 139] h Q X := by
  obtain ⟨B, A, B2, A2, nx, EP, E, C⟩ := C
  obtain ⟨cpl, cft, ce, csp, cbf, cou, cps, css, crr, ckn, cn1⟩ := id C
  obtain ⟨t1, t2, ⟨EP2, t3⟩, E2, t4⟩ := csp
  obtain ⟨EO, oO, o1, o2⟩ := cou
  rw [e_L_endsIn]
  refine WP.of (RUN.mono GQ _) (cuts := []) (n := 400) (v_L_endsIn_0 _ _ _ _ _ _ _ _ ?_)
  refine ⟨cft.k, ⟨by decide, by decide⟩, S_X6_endsIn cft G.W t2 cpl.dj t4.1 t4.2.1 t4.2.2 hvu hvm (fun x9 h9 E9 t v m9 e69 e99 => ?_) (fun e9 n9' c9 l9 => ?_)⟩
  · have u9 := C.spare m9 e69 e99 hN
    have iv : InR (e_tks D m.toNat s (4 + u) - s (4 + u)) := V_endsIn G hN8 t
    exact W_out o u9.1 (by rw [v]; exact iv) (fun h2 g2 i2 k2 => H 0 h2 t.symm (fun _ => ⟨i2.trans v, iv⟩) g2 (k2 _ _ _ u9.2))
  · have u9 := C.up (n' := n9') l9 hN
    refine ⟨fun c1 => H 1 _ (by omega) (fun z => absurd z (by omega)) u9.1.cg u9.2, fun c1 => ?_⟩
    refine ⟨fun c1 => H 2 _ (by omega) (fun z => absurd z (by omega)) u9.1.cg u9.2, fun c1 => ?_⟩
    exfalso
    omega
theorem L_urgencyIn {d : Nat} {h : PH} {D : Nat → Int → Int} {s : Int → Int} {N N' p k m : Int} {Q : Int → PH → Prop} {X : Nat → PH → Prop} (C : CP h D s N) (G : CD D s N) (o : OS h) (hvp : InR p) (hvk : InR k) (hvm : InR m) (hN : N ≤ N') (H : ∀ (kr : Int) h', kr = ck (ck (ck (tL D) p 0 (D 0 4 - 1) 2) k 0 (D 0 3 - 1) 2) m 0 (200) 3 → (ck (ck (ck (tL D) p 0 (D 0 4 - 1) 2) k 0 (D 0 3 - 1) 2) m 0 (200) 3 = 0 → hi h' 139 0 = ur (e_tks D m.toNat s) p k ∧ InR (ur (e_tks D m.toNat s) p k)) → CG h h' → CP h' D s N' → Q kr h') : RUN GQ (d + 9) m_L_urgencyIn [pA 64, pI p, pI k, pI m, pA 139] h Q X := by
  obtain ⟨B, A, B2, A2, nx, EP, E, C⟩ := C
  obtain ⟨cpl, cft, ce, csp, cbf, cou, cps, css, crr, ckn, cn1⟩ := id C
  obtain ⟨t1, t2, ⟨EP2, t3⟩, E2, t4⟩ := csp
  obtain ⟨EO, oO, o1, o2⟩ := cou
  rw [e_L_urgencyIn]
  refine WP.of (RUN.mono GQ _) (cuts := []) (n := 400) (v_L_urgencyIn_0 _ _ _ _ _ _ _ _ _ ?_)
  refine ⟨cft.k, ⟨by decide, by decide⟩, S_X6_urgencyIn cft G.W t2 cpl.dj t4.1 t4.2.1 t4.2.2 hvp hvk hvm (fun x9 h9 E9 t v m9 e69 e99 => ?_) (fun e9 n9' c9 l9 => ?_)⟩
  · have u9 := C.spare m9 e69 e99 hN
    have iv : InR (ur (e_tks D m.toNat s) p k) := V_urgencyIn G t
    exact W_out o u9.1 (by rw [v]; exact iv) (fun h2 g2 i2 k2 => H 0 h2 t.symm (fun _ => ⟨i2.trans v, iv⟩) g2 (k2 _ _ _ u9.2))
  · have u9 := C.up (n' := n9') l9 hN
    refine ⟨fun c1 => H 1 _ (by omega) (fun z => absurd z (by omega)) u9.1.cg u9.2, fun c1 => ?_⟩
    refine ⟨fun c1 => H 2 _ (by omega) (fun z => absurd z (by omega)) u9.1.cg u9.2, fun c1 => ?_⟩
    refine ⟨fun c1 => H 3 _ (by omega) (fun z => absurd z (by omega)) u9.1.cg u9.2, fun c1 => ?_⟩
    exfalso
    omega
theorem L_sentIn {d : Nat} {h : PH} {D : Nat → Int → Int} {s : Int → Int} {N N' m : Int} {Q : Int → PH → Prop} {X : Nat → PH → Prop} (C : CP h D s N) (G : CD D s N) (o : OS h) (hvm : InR m) (hN8 : N ≤ 99999999) (hN : N ≤ N') (H : ∀ (kr : Int) h', kr = ck (tL D) m 0 (200) 2 → (ck (tL D) m 0 (200) 2 = 0 → hi h' 139 0 = e_tks D m.toNat s 1 - s 1 ∧ InR (e_tks D m.toNat s 1 - s 1)) → CG h h' → CP h' D s N' → Q kr h') : RUN GQ (d + 9) m_L_sentIn [pA 64, pI m, pA 139] h Q X := by
  obtain ⟨B, A, B2, A2, nx, EP, E, C⟩ := C
  obtain ⟨cpl, cft, ce, csp, cbf, cou, cps, css, crr, ckn, cn1⟩ := id C
  obtain ⟨t1, t2, ⟨EP2, t3⟩, E2, t4⟩ := csp
  obtain ⟨EO, oO, o1, o2⟩ := cou
  rw [e_L_sentIn]
  refine WP.of (RUN.mono GQ _) (cuts := []) (n := 400) (v_L_sentIn_0 _ _ _ _ _ _ _ ?_)
  refine ⟨cft.k, ⟨by decide, by decide⟩, S_X6_sentIn cft G.W t2 cpl.dj t4.1 t4.2.1 t4.2.2 hvm (fun x9 h9 E9 t v m9 e69 e99 => ?_) (fun e9 n9' c9 l9 => ?_)⟩
  · have u9 := C.spare m9 e69 e99 hN
    have iv : InR (e_tks D m.toNat s 1 - s 1) := V_sentIn G hN8 t
    exact W_out o u9.1 (by rw [v]; exact iv) (fun h2 g2 i2 k2 => H 0 h2 t.symm (fun _ => ⟨i2.trans v, iv⟩) g2 (k2 _ _ _ u9.2))
  · have u9 := C.up (n' := n9') l9 hN
    refine ⟨fun c1 => H 1 _ (by omega) (fun z => absurd z (by omega)) u9.1.cg u9.2, fun c1 => ?_⟩
    refine ⟨fun c1 => H 2 _ (by omega) (fun z => absurd z (by omega)) u9.1.cg u9.2, fun c1 => ?_⟩
    exfalso
    omega
theorem L_bestMask {d : Nat} {h : PH} {D : Nat → Int → Int} {s : Int → Int} {N N' p : Int} {Q : Int → PH → Prop} {X : Nat → PH → Prop} (C : CP h D s N) (G : CD D s N) (o : OS h) (hvp : InR p) (hN : N ≤ N') (H : ∀ (kr : Int) h', kr = ck (tL D) p 0 (D 0 4 - 1) 2 → (ck (tL D) p 0 (D 0 4 - 1) 2 = 0 → hi h' 139 0 = bml D s p (D 0 3).toNat 0 (-1) 0 ∧ InR (bml D s p (D 0 3).toNat 0 (-1) 0)) → CG h h' → CP h' D s N' → Q kr h') : RUN GQ (d + 9) m_L_bestMask [pA 64, pI p, pA 139] h Q X := by
  obtain ⟨B, A, B2, A2, nx, EP, E, C⟩ := C
  obtain ⟨cpl, cft, ce, csp, cbf, cou, cps, css, crr, ckn, cn1⟩ := id C
  obtain ⟨t1, t2, ⟨EP2, t3⟩, E2, t4⟩ := csp
  obtain ⟨EO, oO, o1, o2⟩ := cou
  rw [e_L_bestMask]
  refine WP.of (RUN.mono GQ _) (cuts := []) (n := 400) (v_L_bestMask_0 _ _ _ _ _ _ _ ?_)
  refine ⟨cft.k, ⟨by decide, by decide⟩, S_X6_bestMask cft G.W t2 cpl.dj t4.1 t4.2.1 t4.2.2 hvp (fun x9 h9 E9 t v m9 e69 e99 => ?_) (fun e9 n9' c9 l9 => ?_)⟩
  · have u9 := C.spare m9 e69 e99 hN
    have iv : InR (bml D s p (D 0 3).toNat 0 (-1) 0) := V_bestMask G t
    exact W_out o u9.1 (by rw [v]; exact iv) (fun h2 g2 i2 k2 => H 0 h2 t.symm (fun _ => ⟨i2.trans v, iv⟩) g2 (k2 _ _ _ u9.2))
  · have u9 := C.up (n' := n9') l9 hN
    refine ⟨fun c1 => H 1 _ (by omega) (fun z => absurd z (by omega)) u9.1.cg u9.2, fun c1 => ?_⟩
    refine ⟨fun c1 => H 2 _ (by omega) (fun z => absurd z (by omega)) u9.1.cg u9.2, fun c1 => ?_⟩
    exfalso
    omega
theorem L_writeQueue {d : Nat} {h : PH} {D : Nat → Int → Int} {s : Int → Int} {N N' p : Int} {Q : Int → PH → Prop} {X : Nat → PH → Prop} (C : CP h D s N) (G : CD D s N) (o : OS h) (hvp : InR p) (hN8 : N ≤ 99999999) (hN : N ≤ N') (H : ∀ (kr : Int) h', kr = ck (tL D) p 0 (D 0 4 - 1) 2 → (ck (tL D) p 0 (D 0 4 - 1) 2 = 0 → hi h' 139 0 = ((wqL D s p (s (115 + p)).toNat 0 []).length : Nat) ∧ InR (((wqL D s p (s (115 + p)).toNat 0 []).length : Nat))) → CG h h' → ((ck (tL D) p 0 (D 0 4 - 1) 2 = 0 → ∀ D', TX D D' (wqL D s p (s (115 + p)).toNat 0 []) → CP h' D' s N') ∧ (ck (tL D) p 0 (D 0 4 - 1) 2 ≠ 0 → CP h' D s N')) → Q kr h') : RUN GQ (d + 9) m_L_writeQueue [pA 64, pI p, pA 139] h Q X := by
  obtain ⟨B, A, B2, A2, nx, EP, E, C⟩ := C
  obtain ⟨cpl, cft, ce, csp, cbf, cou, cps, css, crr, ckn, cn1⟩ := id C
  obtain ⟨t1, t2, ⟨EP2, t3⟩, E2, t4⟩ := csp
  obtain ⟨EO, oO, o1, o2⟩ := cou
  rw [e_L_writeQueue]
  refine WP.of (RUN.mono GQ _) (cuts := []) (n := 400) (v_L_writeQueue_0 _ _ _ _ _ _ _ ?_)
  refine ⟨cft.k, ⟨by decide, by decide⟩, S_X6_writeQueue cft G.W cpl.dx oO hvp hN8 (fun x9 h9 E9 t v m9 q9 => ?_) (fun e9 n9' c9 l9 => ?_)⟩
  · have u9 : CF h h9 ∧ ∀ D', TX D D' (wqL D s p (s (115 + p)).toNat 0 []) → CP h9 D' s N' := ⟨CF.of m9.2.1 (by omega), fun D' y => (C.text m9 q9 y hN).2⟩
    have iv : InR (((wqL D s p (s (115 + p)).toNat 0 []).length : Nat)) := V_wq G t
    exact W_out o u9.1 (by rw [v]; exact iv) (fun h2 g2 i2 k2 => H 0 h2 t.symm (fun _ => ⟨i2.trans v, iv⟩) g2 ⟨fun _ D' y => k2 _ _ _ (u9.2 D' y), fun z => absurd t z⟩)
  · have u9 := C.up (n' := n9') l9 hN
    refine ⟨fun c1 => H 1 _ (by omega) (fun z => absurd z (by omega)) u9.1.cg ⟨fun z => absurd z (by omega), fun _ => u9.2⟩, fun c1 => ?_⟩
    refine ⟨fun c1 => H 2 _ (by omega) (fun z => absurd z (by omega)) u9.1.cg ⟨fun z => absurd z (by omega), fun _ => u9.2⟩, fun c1 => ?_⟩
    exfalso
    omega
theorem L_writeStack {d : Nat} {h : PH} {D : Nat → Int → Int} {s : Int → Int} {N N' p : Int} {Q : Int → PH → Prop} {X : Nat → PH → Prop} (C : CP h D s N) (G : CD D s N) (o : OS h) (hvp : InR p) (hN8 : N ≤ 99999999) (hN : N ≤ N') (H : ∀ (kr : Int) h', kr = ck (tL D) p 0 (D 0 4 - 1) 2 → (ck (tL D) p 0 (D 0 4 - 1) 2 = 0 → hi h' 139 0 = ((wsL D s p (s (511 + p)).toNat []).length : Nat) ∧ InR (((wsL D s p (s (511 + p)).toNat []).length : Nat))) → CG h h' → ((ck (tL D) p 0 (D 0 4 - 1) 2 = 0 → ∀ D', TX D D' (wsL D s p (s (511 + p)).toNat []) → CP h' D' s N') ∧ (ck (tL D) p 0 (D 0 4 - 1) 2 ≠ 0 → CP h' D s N')) → Q kr h') : RUN GQ (d + 9) m_L_writeStack [pA 64, pI p, pA 139] h Q X := by
  obtain ⟨B, A, B2, A2, nx, EP, E, C⟩ := C
  obtain ⟨cpl, cft, ce, csp, cbf, cou, cps, css, crr, ckn, cn1⟩ := id C
  obtain ⟨t1, t2, ⟨EP2, t3⟩, E2, t4⟩ := csp
  obtain ⟨EO, oO, o1, o2⟩ := cou
  rw [e_L_writeStack]
  refine WP.of (RUN.mono GQ _) (cuts := []) (n := 400) (v_L_writeStack_0 _ _ _ _ _ _ _ ?_)
  refine ⟨cft.k, ⟨by decide, by decide⟩, S_X6_writeStack cft G.W cpl.dx oO hvp hN8 (fun x9 h9 E9 t v m9 q9 => ?_) (fun e9 n9' c9 l9 => ?_)⟩
  · have u9 : CF h h9 ∧ ∀ D', TX D D' (wsL D s p (s (511 + p)).toNat []) → CP h9 D' s N' := ⟨CF.of m9.2.1 (by omega), fun D' y => (C.text m9 q9 y hN).2⟩
    have iv : InR (((wsL D s p (s (511 + p)).toNat []).length : Nat)) := V_ws G t
    exact W_out o u9.1 (by rw [v]; exact iv) (fun h2 g2 i2 k2 => H 0 h2 t.symm (fun _ => ⟨i2.trans v, iv⟩) g2 ⟨fun _ D' y => k2 _ _ _ (u9.2 D' y), fun z => absurd t z⟩)
  · have u9 := C.up (n' := n9') l9 hN
    refine ⟨fun c1 => H 1 _ (by omega) (fun z => absurd z (by omega)) u9.1.cg ⟨fun z => absurd z (by omega), fun _ => u9.2⟩, fun c1 => ?_⟩
    refine ⟨fun c1 => H 2 _ (by omega) (fun z => absurd z (by omega)) u9.1.cg ⟨fun z => absurd z (by omega), fun _ => u9.2⟩, fun c1 => ?_⟩
    exfalso
    omega
theorem L_writeEnds {d : Nat} {h : PH} {D : Nat → Int → Int} {s : Int → Int} {N N' : Int} {Q : Int → PH → Prop} {X : Nat → PH → Prop} (C : CP h D s N) (G : CD D s N) (o : OS h) (hN8 : N ≤ 99999999) (hN : N ≤ N') (H : ∀ (kr : Int) h', kr = tL D → (tL D = 0 → hi h' 139 0 = ((weL s (tld s).toNat 0 []).length : Nat) ∧ InR (((weL s (tld s).toNat 0 []).length : Nat))) → CG h h' → ((tL D = 0 → ∀ D', TX D D' (weL s (tld s).toNat 0 []) → CP h' D' s N') ∧ (tL D ≠ 0 → CP h' D s N')) → Q kr h') : RUN GQ (d + 9) m_L_writeEnds [pA 64, pA 139] h Q X := by
  obtain ⟨B, A, B2, A2, nx, EP, E, C⟩ := C
  obtain ⟨cpl, cft, ce, csp, cbf, cou, cps, css, crr, ckn, cn1⟩ := id C
  obtain ⟨t1, t2, ⟨EP2, t3⟩, E2, t4⟩ := csp
  obtain ⟨EO, oO, o1, o2⟩ := cou
  rw [e_L_writeEnds]
  refine WP.of (RUN.mono GQ _) (cuts := []) (n := 400) (v_L_writeEnds_0 _ _ _ _ _ _ ?_)
  refine ⟨cft.k, ⟨by decide, by decide⟩, S_X6_writeEnds cft G.W cpl.dx oO ckn.2.2 hN8 (fun x9 h9 E9 t v m9 q9 => ?_) (fun e9 n9' c9 l9 => ?_)⟩
  · have u9 : CF h h9 ∧ ∀ D', TX D D' (weL s (tld s).toNat 0 []) → CP h9 D' s N' := ⟨CF.of m9.2.1 (by omega), fun D' y => (C.text m9 q9 y hN).2⟩
    have iv : InR (((weL s (tld s).toNat 0 []).length : Nat)) := V_we G hN8 t
    exact W_out o u9.1 (by rw [v]; exact iv) (fun h2 g2 i2 k2 => H 0 h2 t.symm (fun _ => ⟨i2.trans v, iv⟩) g2 ⟨fun _ D' y => k2 _ _ _ (u9.2 D' y), fun z => absurd t z⟩)
  · have u9 := C.up (n' := n9') l9 hN
    refine ⟨fun c1 => H 1 _ (by omega) (fun z => absurd z (by omega)) u9.1.cg ⟨fun z => absurd z (by omega), fun _ => u9.2⟩, fun c1 => ?_⟩
    exfalso
    omega
theorem L_textByte {d : Nat} {h : PH} {D : Nat → Int → Int} {s : Int → Int} {N N' i : Int} {Q : Int → PH → Prop} {X : Nat → PH → Prop} (C : CP h D s N) (G : CD D s N) (o : OS h) (hvi : InR i) (hN : N ≤ N') (H : ∀ (kr : Int) h', kr = ck 0 i 0 (D 0 46 - 1) 1 → (ck 0 i 0 (D 0 46 - 1) 1 = 0 → hi h' 139 0 = D 19 i ∧ InR (D 19 i)) → CG h h' → CP h' D s N' → Q kr h') : RUN GQ (d + 8) m_L_textByte [pA 64, pI i, pA 139] h Q X := by
  obtain ⟨B, A, B2, A2, nx, EP, E, C⟩ := C
  obtain ⟨cpl, cft, ce, csp, cbf, cou, cps, css, crr, ckn, cn1⟩ := id C
  obtain ⟨t1, t2, ⟨EP2, t3⟩, E2, t4⟩ := csp
  obtain ⟨EO, oO, o1, o2⟩ := cou
  rw [e_L_textByte]
  refine WP.of (RUN.mono GQ _) (cuts := []) (n := 400) (v_L_textByte_0 _ _ _ _ _ _ _ ?_)
  refine ⟨cft.k, ⟨by decide, by decide⟩, S_X6_textByte cft cpl.dx oO ⟨o1, o2⟩ G.h46 hvi (fun x9 t v => ?_) (fun e9 n9' c9 l9 => ?_)⟩
  · have u9 : CF h h ∧ CP h D s N' := ⟨CF.refl h, B, A, B2, A2, nx, EP, E, C.sc (fun r _ _ => SC.refl h r) (Nat.le_refl _) hN⟩
    have iv : InR (D 19 i) := G.tx _ (ck_v t (by decide)).1 (by have := (ck_v t (by decide)).2; omega)
    exact W_out o u9.1 (by rw [v]; exact iv) (fun h2 g2 i2 k2 => H 0 h2 t.symm (fun _ => ⟨i2.trans v, iv⟩) g2 (k2 _ _ _ u9.2))
  · have u9 := C.up (n' := n9') l9 hN
    refine ⟨fun c1 => H 1 _ (by omega) (fun z => absurd z (by omega)) u9.1.cg u9.2, fun c1 => ?_⟩
    exfalso
    omega
theorem L_tick {d : Nat} {h : PH} {D : Nat → Int → Int} {s : Int → Int} {N N' m : Int} {Q : Int → PH → Prop} {X : Nat → PH → Prop} (C : CP h D s N) (G : CD D s N) (o : OS h) (hvm : InR m) (hN8 : N ≤ 99999999) (hN : N ≤ N') (H : ∀ (kr : Int) h', kr = tTk D s m → (tTk D s m = 0 → hi h' 139 0 = e_tks D m.toNat s 2 - s 2 ∧ InR (e_tks D m.toNat s 2 - s 2)) → CG h h' → ((tTk D s m = 0 → CP h' (kpA D s) (e_tks D m.toNat s) N') ∧ (tTk D s m ≠ 0 → CP h' D s N')) → Q kr h') : RUN GQ (d + 8) m_L_tick [pA 64, pI m, pA 139] h Q X := by
  obtain ⟨B, A, B2, A2, nx, EP, E, C⟩ := C
  obtain ⟨cpl, cft, ce, csp, cbf, cou, cps, css, crr, ckn, cn1⟩ := id C
  obtain ⟨t1, t2, ⟨EP2, t3⟩, E2, t4⟩ := csp
  obtain ⟨EO, oO, o1, o2⟩ := cou
  rw [e_L_tick]
  refine WP.of (RUN.mono GQ _) (cuts := []) (n := 400) (v_L_tick_0 _ _ _ _ _ _ _ ?_)
  refine ⟨cft.k, ⟨by decide, by decide⟩, S_X6_tick cft G.W cpl.ab cps cn1 crr hvm (fun x9 h8 h9 a9 F9 E9 t v b9 g9 r9 n9 m9 q9 => ?_) (fun e9 n9' c9 l9 => ?_)⟩
  · have u9 := C.rem G.W (tTk_n t).1 b9 g9 r9 n9 m9 q9 hN
    have iv : InR (e_tks D m.toNat s 2 - s 2) := V_tick G hN8 t
    exact W_out o u9.1 (by rw [v]; exact iv) (fun h2 g2 i2 k2 => H 0 h2 t.symm (fun _ => ⟨i2.trans v, iv⟩) g2 ⟨fun _ => k2 _ _ _ u9.2, fun z => absurd t z⟩)
  · have u9 := C.up (n' := n9') l9 hN
    refine ⟨fun c1 => H 1 _ (by omega) (fun z => absurd z (by omega)) u9.1.cg ⟨fun z => absurd z (by omega), fun _ => u9.2⟩, fun c1 => ?_⟩
    refine ⟨fun c1 => H 2 _ (by omega) (fun z => absurd z (by omega)) u9.1.cg ⟨fun z => absurd z (by omega), fun _ => u9.2⟩, fun c1 => ?_⟩
    exfalso
    omega
theorem L_send {d : Nat} {h : PH} {D : Nat → Int → Int} {s : Int → Int} {N N' p k v : Int} {Q : Int → PH → Prop} {X : Nat → PH → Prop} (C : CP h D s N) (G : CD D s N) (o : OS h) (hvp : InR p) (hvk : InR k) (hvv : InR v) (hN8 : N ≤ 99999999) (hN : N ≤ N') (H : ∀ (kr : Int) h', kr = ck (ck (ck (tL D) p 0 (D 0 4 - 1) 2) k 0 (D 0 3 - 1) 2) v 0 (999) 3 → (ck (ck (ck (tL D) p 0 (D 0 4 - 1) 2) k 0 (D 0 3 - 1) 2) v 0 (999) 3 = 0 → hi h' 139 0 = s 1 ∧ InR (s 1)) → CG h h' → ((ck (ck (ck (tL D) p 0 (D 0 4 - 1) 2) k 0 (D 0 3 - 1) 2) v 0 (999) 3 = 0 → CP h' (kpA D s) (e_snd D s p k v (-1)) N') ∧ (ck (ck (ck (tL D) p 0 (D 0 4 - 1) 2) k 0 (D 0 3 - 1) 2) v 0 (999) 3 ≠ 0 → CP h' D s N')) → Q kr h') : RUN GQ (d + 9) m_L_send [pA 64, pI p, pI k, pI v, pA 139] h Q X := by
  obtain ⟨B, A, B2, A2, nx, EP, E, C⟩ := C
  obtain ⟨cpl, cft, ce, csp, cbf, cou, cps, css, crr, ckn, cn1⟩ := id C
  obtain ⟨t1, t2, ⟨EP2, t3⟩, E2, t4⟩ := csp
  obtain ⟨EO, oO, o1, o2⟩ := cou
  rw [e_L_send]
  refine WP.of (RUN.mono GQ _) (cuts := []) (n := 400) (v_L_send_0 _ _ _ _ _ _ _ _ _ ?_)
  refine ⟨cft.k, ⟨by decide, by decide⟩, S_X6_send cft G.W cpl.ab cps cn1 crr hvp hvk hvv (fun x9 h8 h9 a9 F9 E9 t v b9 g9 r9 n9 m9 q9 => ?_) (fun e9 n9' c9 l9 => ?_)⟩
  · have u9 := C.rem G.W (tL_n (ck_t (ck_t (ck_t t)))) b9 g9 r9 n9 m9 q9 hN
    have iv : InR (s 1) := V_cnt G hN8 (tL_n (ck_t (ck_t (ck_t t)))) (Or.inl ⟨by omega, by omega⟩)
    exact W_out o u9.1 (by rw [v]; exact iv) (fun h2 g2 i2 k2 => H 0 h2 t.symm (fun _ => ⟨i2.trans v, iv⟩) g2 ⟨fun _ => k2 _ _ _ u9.2, fun z => absurd t z⟩)
  · have u9 := C.up (n' := n9') l9 hN
    refine ⟨fun c1 => H 1 _ (by omega) (fun z => absurd z (by omega)) u9.1.cg ⟨fun z => absurd z (by omega), fun _ => u9.2⟩, fun c1 => ?_⟩
    refine ⟨fun c1 => H 2 _ (by omega) (fun z => absurd z (by omega)) u9.1.cg ⟨fun z => absurd z (by omega), fun _ => u9.2⟩, fun c1 => ?_⟩
    refine ⟨fun c1 => H 3 _ (by omega) (fun z => absurd z (by omega)) u9.1.cg ⟨fun z => absurd z (by omega), fun _ => u9.2⟩, fun c1 => ?_⟩
    exfalso
    omega
theorem L_mask {d : Nat} {h : PH} {D : Nat → Int → Int} {s : Int → Int} {N N' p k z : Int} {Q : Int → PH → Prop} {X : Nat → PH → Prop} (C : CP h D s N) (G : CD D s N) (o : OS h) (hvp : InR p) (hvk : InR k) (hvz : InR z) (hz : z = 0 ∨ z = 1) (hN : N ≤ N') (H : ∀ (kr : Int) h', kr = ck (ck (tL D) p 0 (D 0 4 - 1) 2) k 0 (D 0 3 - 1) 2 → (ck (ck (tL D) p 0 (D 0 4 - 1) 2) k 0 (D 0 3 - 1) 2 = 0 → hi h' 139 0 = msk s p k ∧ InR (msk s p k)) → CG h h' → ((ck (ck (tL D) p 0 (D 0 4 - 1) 2) k 0 (D 0 3 - 1) 2 = 0 → CP h' (kpA D s) (ups s (85 + p) (bor (band (s (85 + p)) (bxor (bshl 1 k) (-1))) (bshl z k))) N') ∧ (ck (ck (tL D) p 0 (D 0 4 - 1) 2) k 0 (D 0 3 - 1) 2 ≠ 0 → CP h' D s N')) → Q kr h') : RUN GQ (d + 9) m_L_mask [pA 64, pI p, pI k, pI z, pA 139] h Q X := by
  obtain ⟨B, A, B2, A2, nx, EP, E, C⟩ := C
  obtain ⟨cpl, cft, ce, csp, cbf, cou, cps, css, crr, ckn, cn1⟩ := id C
  obtain ⟨t1, t2, ⟨EP2, t3⟩, E2, t4⟩ := csp
  obtain ⟨EO, oO, o1, o2⟩ := cou
  rw [e_L_mask]
  refine WP.of (RUN.mono GQ _) (cuts := []) (n := 400) (v_L_mask_0 _ _ _ _ _ _ _ _ _ ?_)
  refine ⟨cft.k, ⟨by decide, by decide⟩, S_X6_mask cft G.W cpl.ab cps cn1 crr hvp hvk hvz hz (fun x9 h8 h9 a9 F9 E9 t v b9 g9 r9 n9 m9 q9 => ?_) (fun e9 n9' c9 l9 => ?_)⟩
  · have u9 := C.rem G.W (tL_n (ck_t (ck_t t))) b9 g9 r9 n9 m9 q9 hN
    have zz := msk_01 (s := s) p k
    rw [← v] at zz
    refine ⟨ir (by omega) (by omega), fun y => (W_out (x := 0) o u9.1 (ir (by omega) (by omega)) (fun h2 g2 i2 k2 => H 0 h2 t.symm (fun _ => ⟨by rw [← v, y]; exact i2, by rw [← v]; exact ir (by omega) (by omega)⟩) g2 ⟨fun _ => k2 _ _ _ u9.2, fun z => absurd t z⟩)).2, fun y => (W_out (x := 1) o u9.1 (ir (by omega) (by omega)) (fun h2 g2 i2 k2 => H 0 h2 t.symm (fun _ => ⟨by rw [i2]; omega, by rw [← v]; exact ir (by omega) (by omega)⟩) g2 ⟨fun _ => k2 _ _ _ u9.2, fun z => absurd t z⟩)).2⟩
  · have u9 := C.up (n' := n9') l9 hN
    refine ⟨fun c1 => H 1 _ (by omega) (fun z => absurd z (by omega)) u9.1.cg ⟨fun z => absurd z (by omega), fun _ => u9.2⟩, fun c1 => ?_⟩
    refine ⟨fun c1 => H 2 _ (by omega) (fun z => absurd z (by omega)) u9.1.cg ⟨fun z => absurd z (by omega), fun _ => u9.2⟩, fun c1 => ?_⟩
    exfalso
    omega
theorem L_drop {d : Nat} {h : PH} {D : Nat → Int → Int} {s : Int → Int} {N N' g : Int} {Q : Int → PH → Prop} {X : Nat → PH → Prop} (C : CP h D s N) (G : CD D s N) (o : OS h) (hvg : InR g) (hN : N ≤ N') (H : ∀ (kr : Int) h', kr = ck (tL D) g 0 (s 1 - 1) 2 → (ck (tL D) g 0 (s 1 - 1) 2 = 0 → hi h' 139 0 = drpv D s g ∧ InR (drpv D s g)) → CG h h' → ((ck (tL D) g 0 (s 1 - 1) 2 = 0 → CP h' (kpA D s) (drps D s g) N') ∧ (ck (tL D) g 0 (s 1 - 1) 2 ≠ 0 → CP h' D s N')) → Q kr h') : RUN GQ (d + 9) m_L_drop [pA 64, pI g, pA 139] h Q X := by
  obtain ⟨B, A, B2, A2, nx, EP, E, C⟩ := C
  obtain ⟨cpl, cft, ce, csp, cbf, cou, cps, css, crr, ckn, cn1⟩ := id C
  obtain ⟨t1, t2, ⟨EP2, t3⟩, E2, t4⟩ := csp
  obtain ⟨EO, oO, o1, o2⟩ := cou
  rw [e_L_drop]
  refine WP.of (RUN.mono GQ _) (cuts := []) (n := 400) (v_L_drop_0 _ _ _ _ _ _ _ ?_)
  refine ⟨cft.k, ⟨by decide, by decide⟩, S_X6_drop cft G.W cpl.ab cps cn1 crr hvg (fun x9 h8 h9 a9 F9 E9 t v b9 g9 r9 n9 m9 q9 => ?_) (fun e9 n9' c9 l9 => ?_)⟩
  · have u9 := C.rem G.W (tL_n (ck_t t)) b9 g9 r9 n9 m9 q9 hN
    have iv : InR (drpv D s g) := V_drop
    exact W_out o u9.1 (by rw [v]; exact iv) (fun h2 g2 i2 k2 => H 0 h2 t.symm (fun _ => ⟨i2.trans v, iv⟩) g2 ⟨fun _ => k2 _ _ _ u9.2, fun z => absurd t z⟩)
  · have u9 := C.up (n' := n9') l9 hN
    refine ⟨fun c1 => H 1 _ (by omega) (fun z => absurd z (by omega)) u9.1.cg ⟨fun z => absurd z (by omega), fun _ => u9.2⟩, fun c1 => ?_⟩
    refine ⟨fun c1 => H 2 _ (by omega) (fun z => absurd z (by omega)) u9.1.cg ⟨fun z => absurd z (by omega), fun _ => u9.2⟩, fun c1 => ?_⟩
    exfalso
    omega
theorem L_clear {d : Nat} {h : PH} {D : Nat → Int → Int} {s : Int → Int} {N N' p : Int} {Q : Int → PH → Prop} {X : Nat → PH → Prop} (C : CP h D s N) (G : CD D s N) (o : OS h) (hvp : InR p) (hN : N ≤ N') (H : ∀ (kr : Int) h', kr = ck (tL D) p 0 (D 0 4 - 1) 2 → (ck (tL D) p 0 (D 0 4 - 1) 2 = 0 → hi h' 139 0 = s (115 + p) ∧ InR (s (115 + p))) → CG h h' → ((ck (tL D) p 0 (D 0 4 - 1) 2 = 0 → CP h' (kpA D s) (e_drops s p (-1)) N') ∧ (ck (tL D) p 0 (D 0 4 - 1) 2 ≠ 0 → CP h' D s N')) → Q kr h') : RUN GQ (d + 9) m_L_clear [pA 64, pI p, pA 139] h Q X := by
  obtain ⟨B, A, B2, A2, nx, EP, E, C⟩ := C
  obtain ⟨cpl, cft, ce, csp, cbf, cou, cps, css, crr, ckn, cn1⟩ := id C
  obtain ⟨t1, t2, ⟨EP2, t3⟩, E2, t4⟩ := csp
  obtain ⟨EO, oO, o1, o2⟩ := cou
  rw [e_L_clear]
  refine WP.of (RUN.mono GQ _) (cuts := []) (n := 400) (v_L_clear_0 _ _ _ _ _ _ _ ?_)
  refine ⟨cft.k, ⟨by decide, by decide⟩, S_X6_clear cft G.W cpl.ab cps cn1 crr hvp (fun x9 h8 h9 a9 F9 E9 t v b9 g9 r9 n9 m9 q9 => ?_) (fun e9 n9' c9 l9 => ?_)⟩
  · have u9 := C.rem G.W (tL_n (ck_t t)) b9 g9 r9 n9 m9 q9 hN
    have iv : InR (s (115 + p)) := V_clear G t
    exact W_out o u9.1 (by rw [v]; exact iv) (fun h2 g2 i2 k2 => H 0 h2 t.symm (fun _ => ⟨i2.trans v, iv⟩) g2 ⟨fun _ => k2 _ _ _ u9.2, fun z => absurd t z⟩)
  · have u9 := C.up (n' := n9') l9 hN
    refine ⟨fun c1 => H 1 _ (by omega) (fun z => absurd z (by omega)) u9.1.cg ⟨fun z => absurd z (by omega), fun _ => u9.2⟩, fun c1 => ?_⟩
    refine ⟨fun c1 => H 2 _ (by omega) (fun z => absurd z (by omega)) u9.1.cg ⟨fun z => absurd z (by omega), fun _ => u9.2⟩, fun c1 => ?_⟩
    exfalso
    omega
theorem L_refresh {d : Nat} {h : PH} {D : Nat → Int → Int} {s : Int → Int} {N N' p : Int} {Q : Int → PH → Prop} {X : Nat → PH → Prop} (C : CP h D s N) (G : CD D s N) (o : OS h) (hvp : InR p) (hN : N ≤ N') (H : ∀ (kr : Int) h', kr = ck (tL D) p 0 (D 0 4 - 1) 2 → (ck (tL D) p 0 (D 0 4 - 1) 2 = 0 → hi h' 139 0 = rfsum p (D 0 3).toNat 0 s 0 ∧ InR (rfsum p (D 0 3).toNat 0 s 0)) → CG h h' → ((ck (tL D) p 0 (D 0 4 - 1) 2 = 0 → CP h' (kpA D s) (rfs p (D 0 3).toNat 0 s) N') ∧ (ck (tL D) p 0 (D 0 4 - 1) 2 ≠ 0 → CP h' D s N')) → Q kr h') : RUN GQ (d + 9) m_L_refresh [pA 64, pI p, pA 139] h Q X := by
  obtain ⟨B, A, B2, A2, nx, EP, E, C⟩ := C
  obtain ⟨cpl, cft, ce, csp, cbf, cou, cps, css, crr, ckn, cn1⟩ := id C
  obtain ⟨t1, t2, ⟨EP2, t3⟩, E2, t4⟩ := csp
  obtain ⟨EO, oO, o1, o2⟩ := cou
  rw [e_L_refresh]
  refine WP.of (RUN.mono GQ _) (cuts := []) (n := 400) (v_L_refresh_0 _ _ _ _ _ _ _ ?_)
  refine ⟨cft.k, ⟨by decide, by decide⟩, S_X6_refresh cft G.W cpl.ab cps cn1 crr hvp (fun x9 h8 h9 a9 F9 E9 t v b9 g9 r9 n9 m9 q9 => ?_) (fun e9 n9' c9 l9 => ?_)⟩
  · have u9 := C.rem G.W (tL_n (ck_t t)) b9 g9 r9 n9 m9 q9 hN
    have iv : InR (rfsum p (D 0 3).toNat 0 s 0) := V_refresh G t
    exact W_out o u9.1 (by rw [v]; exact iv) (fun h2 g2 i2 k2 => H 0 h2 t.symm (fun _ => ⟨i2.trans v, iv⟩) g2 ⟨fun _ => k2 _ _ _ u9.2, fun z => absurd t z⟩)
  · have u9 := C.up (n' := n9') l9 hN
    refine ⟨fun c1 => H 1 _ (by omega) (fun z => absurd z (by omega)) u9.1.cg ⟨fun z => absurd z (by omega), fun _ => u9.2⟩, fun c1 => ?_⟩
    refine ⟨fun c1 => H 2 _ (by omega) (fun z => absurd z (by omega)) u9.1.cg ⟨fun z => absurd z (by omega), fun _ => u9.2⟩, fun c1 => ?_⟩
    exfalso
    omega
theorem L_setKind {d : Nat} {h : PH} {D : Nat → Int → Int} {s : Int → Int} {N N' k w v : Int} {Q : Int → PH → Prop} {X : Nat → PH → Prop} (C : CP h D s N) (G : CD D s N) (o : OS h) (hvk : InR k) (hvw : InR w) (hvv : InR v) (hN : N ≤ N') (H : ∀ (kr : Int) h', kr = ck (ck (ck (tL D) k 0 (D 0 3 - 1) 2) w 0 (2) 3) v (knl w) (knh w) 3 → (ck (ck (ck (tL D) k 0 (D 0 3 - 1) 2) w 0 (2) 3) v (knl w) (knh w) 3 = 0 → hi h' 139 0 = kn s k w ∧ InR (kn s k w)) → CG h h' → ((ck (ck (ck (tL D) k 0 (D 0 3 - 1) 2) w 0 (2) 3) v (knl w) (knh w) 3 = 0 → CP h' (kpA D s) (ups s (13 + 3 * k + w) v) N') ∧ (ck (ck (ck (tL D) k 0 (D 0 3 - 1) 2) w 0 (2) 3) v (knl w) (knh w) 3 ≠ 0 → CP h' D s N')) → Q kr h') : RUN GQ (d + 9) m_L_setKind [pA 64, pI k, pI w, pI v, pA 139] h Q X := by
  obtain ⟨B, A, B2, A2, nx, EP, E, C⟩ := C
  obtain ⟨cpl, cft, ce, csp, cbf, cou, cps, css, crr, ckn, cn1⟩ := id C
  obtain ⟨t1, t2, ⟨EP2, t3⟩, E2, t4⟩ := csp
  obtain ⟨EO, oO, o1, o2⟩ := cou
  rw [e_L_setKind]
  refine WP.of (RUN.mono GQ _) (cuts := []) (n := 400) (v_L_setKind_0 _ _ _ _ _ _ _ _ _ ?_)
  refine ⟨cft.k, ⟨by decide, by decide⟩, S_X6_setKind cft G.W ckn.2.1 cpl.ab cps cn1 crr hvk hvw hvv (fun x9 h8 h9 a9 F9 E9 t v b9 g9 r9 n9 m9 q9 => ?_) (fun e9 n9' c9 l9 => ?_)⟩
  · have u9 := C.rem G.W (tL_n (ck_t (ck_t (ck_t t)))) b9 g9 r9 n9 m9 q9 hN
    have iv : InR (kn s k w) := V_setKind G t
    exact W_out o u9.1 (by rw [v]; exact iv) (fun h2 g2 i2 k2 => H 0 h2 t.symm (fun _ => ⟨i2.trans v, iv⟩) g2 ⟨fun _ => k2 _ _ _ u9.2, fun z => absurd t z⟩)
  · have u9 := C.up (n' := n9') l9 hN
    refine ⟨fun c1 => H 1 _ (by omega) (fun z => absurd z (by omega)) u9.1.cg ⟨fun z => absurd z (by omega), fun _ => u9.2⟩, fun c1 => ?_⟩
    refine ⟨fun c1 => H 2 _ (by omega) (fun z => absurd z (by omega)) u9.1.cg ⟨fun z => absurd z (by omega), fun _ => u9.2⟩, fun c1 => ?_⟩
    refine ⟨fun c1 => H 3 _ (by omega) (fun z => absurd z (by omega)) u9.1.cg ⟨fun z => absurd z (by omega), fun _ => u9.2⟩, fun c1 => ?_⟩
    exfalso
    omega
theorem L_set {d : Nat} {h : PH} {D : Nat → Int → Int} {s : Int → Int} {N N' w v : Int} {Q : Int → PH → Prop} {X : Nat → PH → Prop} (C : CP h D s N) (G : CD D s N) (o : OS h) (hvw : InR w) (hvv : InR v) (hN : N ≤ N') (H : ∀ (kr : Int) h', kr = ck (ck (tL D) w 0 (2) 2) v (stl w) (sth w) 2 → (ck (ck (tL D) w 0 (2) 2) v (stl w) (sth w) 2 = 0 → hi h' 139 0 = s (10 + w) ∧ InR (s (10 + w))) → CG h h' → ((ck (ck (tL D) w 0 (2) 2) v (stl w) (sth w) 2 = 0 → CP h' (kpA D s) (ups s (10 + w) v) N') ∧ (ck (ck (tL D) w 0 (2) 2) v (stl w) (sth w) 2 ≠ 0 → CP h' D s N')) → Q kr h') : RUN GQ (d + 8) m_L_set [pA 64, pI w, pI v, pA 139] h Q X := by
  obtain ⟨B, A, B2, A2, nx, EP, E, C⟩ := C
  obtain ⟨cpl, cft, ce, csp, cbf, cou, cps, css, crr, ckn, cn1⟩ := id C
  obtain ⟨t1, t2, ⟨EP2, t3⟩, E2, t4⟩ := csp
  obtain ⟨EO, oO, o1, o2⟩ := cou
  rw [e_L_set]
  refine WP.of (RUN.mono GQ _) (cuts := []) (n := 400) (v_L_set_0 _ _ _ _ _ _ _ _ ?_)
  refine ⟨cft.k, ⟨by decide, by decide⟩, S_X6_set cft G.W ckn.2.1 cpl.ab cps cn1 crr hvw hvv (fun x9 h8 h9 a9 F9 E9 t v b9 g9 r9 n9 m9 q9 => ?_) (fun e9 n9' c9 l9 => ?_)⟩
  · have u9 := C.rem G.W (tL_n (ck_t (ck_t t))) b9 g9 r9 n9 m9 q9 hN
    have iv : InR (s (10 + w)) := V_set G t
    exact W_out o u9.1 (by rw [v]; exact iv) (fun h2 g2 i2 k2 => H 0 h2 t.symm (fun _ => ⟨i2.trans v, iv⟩) g2 ⟨fun _ => k2 _ _ _ u9.2, fun z => absurd t z⟩)
  · have u9 := C.up (n' := n9') l9 hN
    refine ⟨fun c1 => H 1 _ (by omega) (fun z => absurd z (by omega)) u9.1.cg ⟨fun z => absurd z (by omega), fun _ => u9.2⟩, fun c1 => ?_⟩
    refine ⟨fun c1 => H 2 _ (by omega) (fun z => absurd z (by omega)) u9.1.cg ⟨fun z => absurd z (by omega), fun _ => u9.2⟩, fun c1 => ?_⟩
    exfalso
    omega
