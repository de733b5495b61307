/-! the lists, against the model's row -/
def svc (s : Int → Int) (p i w : Int) : Int := if w = 0 then sv s p i 0 else if w = 1 then sv s p i 1 else if w = 3 then sv s p i 4 else if w = 4 then sv s p i 5 else if w = 5 then sv s p i 2 else sv s p i 3
section LSR
variable {d b : Nat} {h0 h : PH} {E : Nat → Int → Int} {Q : Int → PH → Prop} {X : Nat → PH → Prop} {C K P c N : Int} {s : Int → Int} {p i w : Int}
theorem svc_0 : svc s p i 0 = sv s p i 0 := rfl
theorem svc_1 : svc s p i 1 = sv s p i 1 := rfl
theorem svc_3 : svc s p i 3 = sv s p i 4 := rfl
theorem svc_4 : svc s p i 4 = sv s p i 5 := rfl
theorem svc_5 : svc s p i 5 = sv s p i 2 := rfl
theorem svc_6 : svc s p i 6 = sv s p i 3 := rfl
theorem HR.svc (R : HR E C K s) (hp : 0 ≤ p ∧ p < 6) (hi : 0 ≤ i ∧ i < s (511 + p)) (hw : 0 ≤ w ∧ w < 7) (h2 : w ≠ 2) : E 11 ((p * 4 + i) * 7 + w) = Jvm.Pilot.CFadingSignalsLaw_law_r4563_1f4246.svc s p i w := by
  obtain ⟨a0, a1, a3, a4, a5, a6⟩ := R.sv hp hi
  have : w = 0 ∨ w = 1 ∨ w = 3 ∨ w = 4 ∨ w = 5 ∨ w = 6 := by omega
  rcases this with rfl | rfl | rfl | rfl | rfl | rfl
  · exact a0
  · exact a1
  · exact a3
  · exact a4
  · exact a5
  · exact a6
theorem S_X1_sizeOf_qR (M : Hx b h0 h E) (R : HR E C K s) (I : HI K P c N s) (hp : 0 ≤ p ∧ p < 6) (H : ∀ x : Int, x = s (115 + p) → Q x h) : RUN GQ (d + 1) m_X1_sizeOf [pA (b + 6), pI p] h Q X := S_X1_sizeOf_q M hp (fun x e => H x (e.trans (R.qn hp)))
theorem S_X1_sizeOf_sR (M : Hx b h0 h E) (R : HR E C K s) (I : HI K P c N s) (hp : 0 ≤ p ∧ p < 6) (H : ∀ x : Int, x = s (511 + p) → Q x h) : RUN GQ (d + 1) m_X1_sizeOf [pA (b + 9), pI p] h Q X := S_X1_sizeOf_s M hp (fun x e => H x (e.trans (R.sn hp)))
theorem S_X1_part_qR (M : Hx b h0 h E) (R : HR E C K s) (I : HI K P c N s) (hp : 0 ≤ p ∧ p < 6) (hi' : 0 ≤ i ∧ i < s (115 + p)) (hw : 0 ≤ w ∧ w < 5) (H : ∀ x : Int, x = qv s p i w → Q x h) : RUN GQ (d + 1) m_X1_part [pA (b + 6), pI p, pI i, pI w] h Q X := by
  have q := I.qn hp
  have q2 := I.hq.1
  exact S_X1_part_q M R.r6 hp (by omega) (by omega) (fun x e => H x (e.trans (R.qv hp hi' hw)))
theorem S_X1_part_sR (M : Hx b h0 h E) (R : HR E C K s) (I : HI K P c N s) (hp : 0 ≤ p ∧ p < 6) (hi' : 0 ≤ i ∧ i < s (511 + p)) (hw : 0 ≤ w ∧ w < 7) (h2 : w ≠ 2) (H : ∀ x : Int, x = svc s p i w → Q x h) : RUN GQ (d + 1) m_X1_part [pA (b + 9), pI p, pI i, pI w] h Q X := by
  have q := I.sn hp
  exact S_X1_part_s M R.r9 hp (by omega) hw (fun x e => H x (e.trans (R.svc hp hi' hw h2)))
end LSR
theorem ahd_self (s : Int → Int) (p k : Int) : ahd s p k k = 0 := by
  unfold ahd
  rw [if_pos rfl, if_neg (by omega)]
/-- the end of a signal among those that can be told: n of them from i on -/
def tef (s : Int → Int) (g : Int) : Nat → Int → Int
  | 0, _ => -1
  | n + 1, i => if rv s (Int.tmod (s 2 - 1 - i) 40) 0 = g then rv s (Int.tmod (s 2 - 1 - i) 40) 1 else tef s g n (i + 1)
def tld (s : Int → Int) : Int := if s 2 < 40 then s 2 else 40
/-- whether n programs from p on are idle -/
def idl (s : Int → Int) : Nat → Int → Int
  | 0, _ => 1
  | n + 1, p => if 0 < s (115 + p) ∨ 0 < s (511 + p) then 0 else idl s n (p + 1)
